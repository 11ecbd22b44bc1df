/-! The law's act: forget -/
set_option maxRecDepth 100000 in
set_option maxHeartbeats 400000 in
theorem act_forget {φ : Fx} {cy : CY} {bs : Nat} {ba : Nat → Nat} {ob : Nat} {h : HS} {V M : MS} {k n : Nat} {x y t kd dv ac nd : Int} (C : Cx φ cL_law RL ret cy) (hR : ROf φ = RLaw) (hn : nLof φ = 19) (hk : k + 100 ≤ 600074 ∧ n + 1000 ≤ 7301550) (G : GF ob h V M) (hnw : M 1 0 ≤ 84000) (hx : -2147483648 ≤ x ∧ x ≤ 2147483647) (hy : -2147483648 ≤ y ∧ y ≤ 2147483647) (hdv : 0 ≤ dv ∧ dv < 3) (hac : -1 ≤ ac ∧ ac < 3) (hnd : 0 ≤ nd ∧ nd < 6)  (K : ∀ (h' : HS) (V' M' : MS), GI ob h' V' M' → M' 1 0 ≤ M 1 0 + 1500 → X φ (LA cy ba (h', V')) (k + 100) (n + 1000) 810 (LL bs ob ba (M' 2 0) (M' 1 0) t y) []) : X φ (LA cy ba (h, V)) k n 642 (LF bs ob ba (M 2 0) (M 1 0) t x y kd dv ac nd) [] := by
  have hst := C.st
  obtain ⟨⟨R, hL, hX, hN⟩, hlow, hP⟩ := G
  have hM := R.mi
  have hn0 := hM.n
  have hnow := hM.now
  have hnn := nn_in hnd
  have K747 : ∀ (V2 : MS) (its : Int), its = nn nd → (∀ j, 0 ≤ j → j < M 2 0 → V2 0 j = if blg M j (nn nd) then -1 else V 0 j) → V2 1 = V 1 → V2 3 = V 3 → (∀ i, 0 ≤ i → i < 6 → V2 4 i = if V 2 i = V 2 nd then 0 else V 4 i) → X φ (LA cy ba (h, V2)) k n 748 [(0, vr (some bs)), (1, vr (some ob)), (2, vr (some (ba 0))), (3, vr (some (ba 1))), (4, vr (some (ba 2))), (5, vr (some (ba 3))), (6, vr (some (ba 4))), (7, vi (M 2 0)), (8, vi (M 1 0)), (9, vi t), (10, vi x), (11, vi y), (12, vi kd), (13, vi dv), (14, vi ac), (15, vi nd), (16, vi (evF M (nn nd) (-1) (M 2 0).toNat))] [vi its, vr (some ob)] := by
    intro V2 its hits g0 g1 g3 g4
    subst hits
    have he9 := evF_in M (nn nd) (-1) (M 2 0).toNat
    refine x_callV C hR cb_X6_forget cv_X6_forget u10_18 (q_forget hst R hlow (by omega)) (a_recvH R.k (by decide)) ⟨_, _, rfl⟩ rfl (Nat.le_of_ble_eq_true rfl) rfl dL_law_748 (by decide) (by show _ ≤ 600074 ∧ _ ≤ 7301550; omega) (fun E x9 h9 => absurd h9.1 (by intro h; cases h)) (fun r9 x9 h9 => ?_)
    obtain ⟨e9, h9x, rfl, R⟩ := h9
    cases e9
    refine x_iload C dL_law_751 rfl ?_
    refine x_icmp_eq (tgt := 758) C dL_law_753 (by decide) (by first | omega | exact bi_rng _) (by first | omega | exact bi_rng _) (fun h753 => ?_) (fun h753 => ?_)
    ·
      refine x_goto (tgt := 810) C dL_law_758 (by decide) ?_
      exact X.mono (by omega) (by omega) (X.to (K _ _ _ ⟨R, hL.fo hnd hP g0 g1 g3 g4, hX.sm (forM_sm M _), by rw [forM_sm M _ 2 (by decide)]; exact hN⟩ (by rw [forM_sm M _ 1 (by decide)]; omega)) (lsc (rfl) (lsc (rfl) (lsc (rfl) (lsc (rfl) (lsc (rfl) (lsc (rfl) (lsc (rfl) (lsc (lkv (by rw [forM_sm M _ 2 (by decide)])) (lsc (lkv (by rw [forM_sm M _ 1 (by decide)])) (lsc (rfl) (lsc (rfl) (lsn)))))))))))))
    ·
      exfalso; omega
  have loop2 : ∀ (V1 : MS), (∀ k, k ≠ 0 → V1 k = V k) → (∀ j, 0 ≤ j → j < M 2 0 → V1 0 j = if blg M j (nn nd) then -1 else V 0 j) → ∀ (f i : Nat) (V2 : MS), i ≤ 6 → 6 - i < f → (∀ k, k ≠ 4 → V2 k = V1 k) → (∀ j : Int, 0 ≤ j → j < 6 → V2 4 j = if j < i ∧ V 2 j = V 2 nd then 0 else V 4 j) → X φ (LA cy ba (h, V2)) k n 691 [(0, vr (some bs)), (1, vr (some ob)), (2, vr (some (ba 0))), (3, vr (some (ba 1))), (4, vr (some (ba 2))), (5, vr (some (ba 3))), (6, vr (some (ba 4))), (7, vi (M 2 0)), (8, vi (M 1 0)), (9, vi t), (10, vi x), (11, vi y), (12, vi kd), (13, vi dv), (14, vi ac), (15, vi nd), (16, vi (evF M (nn nd) (-1) (M 2 0).toNat)), (17, vi (i : Int))] [] := by
    intro V1 hc g0 f
    induction f with
    | zero => intro i V2 h1 h2; omega
    | succ f ih2 =>
      intro i V2 h1 h2 hr hr4
      have hr6 : 6 ≤ (i : Int) → ∀ j : Int, 0 ≤ j → j < 6 → V2 4 j = if V 2 j = V 2 nd then 0 else V 4 j := fun hi j j0 j1 => by
        rw [hr4 j j0 j1]
        by_cases hj : V 2 j = V 2 nd
        · rw [if_pos ⟨by omega, hj⟩, if_pos hj]
        · rw [if_neg (fun q9 => hj q9.2), if_neg hj]
      refine x_iload C dL_law_691 rfl ?_
      refine x_bipush C dL_law_693 (by decide) ?_
      refine x_icmp_ge (tgt := 731) C dL_law_695 (by decide) (by first | omega | exact bi_rng _) (by first | omega | exact bi_rng _) (fun h695 => ?_) (fun h695 => ?_)
      ·
        refine x_aload_n C dL_law_731 rfl rfl ?_
        refine x_iload C dL_law_732 rfl ?_
        refine x_iconst C dL_law_734 ?_
        refine x_icmp_ge (tgt := 743) C dL_law_735 (by decide) (by first | omega | exact bi_rng _) (by first | omega | exact bi_rng _) (fun h735 => ?_) (fun h735 => ?_)
        ·
          refine x_bipush C dL_law_743 (by decide) ?_
          refine x_iload C dL_law_745 rfl ?_
          refine x_iadd C dL_law_747 ?_
          exact X.mono (by omega) (by omega) (X.to (K747 V2 _ (by first | rw [nn_hi (by omega)] | rw [nn_lo (by omega)]) (fun j j0 j1 => by rw [hr 0 (by decide)]; exact g0 j j0 j1) ((hr 1 (by decide)).trans (hc 1 (by decide))) ((hr 3 (by decide)).trans (hc 3 (by decide))) (hr6 (by omega))) (lsc (rfl) (lsc (rfl) (lsc (rfl) (lsc (rfl) (lsc (rfl) (lsc (rfl) (lsc (rfl) (lsc (rfl) (lsc (rfl) (lsc (rfl) (lsc (rfl) (lsc (rfl) (lsc (rfl) (lsc (rfl) (lsc (rfl) (lsc (rfl) (lsc (rfl) (lsn)))))))))))))))))))
        ·
          refine x_iload C dL_law_738 rfl ?_
          refine x_goto (tgt := 748) C dL_law_740 (by decide) ?_
          exact X.mono (by omega) (by omega) (X.to (K747 V2 _ (by first | rw [nn_hi (by omega)] | rw [nn_lo (by omega)]) (fun j j0 j1 => by rw [hr 0 (by decide)]; exact g0 j j0 j1) ((hr 1 (by decide)).trans (hc 1 (by decide))) ((hr 3 (by decide)).trans (hc 3 (by decide))) (hr6 (by omega))) (lsc (rfl) (lsc (rfl) (lsc (rfl) (lsc (rfl) (lsc (rfl) (lsc (rfl) (lsc (rfl) (lsc (rfl) (lsc (rfl) (lsc (rfl) (lsc (rfl) (lsc (rfl) (lsc (rfl) (lsc (rfl) (lsc (rfl) (lsc (rfl) (lsc (rfl) (lsn)))))))))))))))))))
      ·
        have e2 : V2 2 = V 2 := (hr 2 (by decide)).trans (hc 2 (by decide))
        have r1 := hP i (by omega) (by omega)
        have r2 := hP nd hnd.1 hnd.2
        have r3 := nn_in (i := i) (by omega)
        have r4 := hM.low _ r3.1 r3.2
        have r5 := hM.low _ hnn.1 hnn.2
        have g6 := hr4 i (by omega) (by omega)
        rw [if_neg (by omega)] at g6
        refine x_aload C dL_law_698 rfl ?_
        refine x_iload C dL_law_700 rfl ?_
        refine x_aload C dL_law_702 rfl ?_
        refine x_iload C dL_law_704 rfl ?_
        refine a_iald (f := 2) (N := 6) C rfl (by decide) (by first | omega | exact bi_rng _) dL_law_706 ?_
        rw [e2]
        refine x_aload C dL_law_707 rfl ?_
        refine x_iload C dL_law_709 rfl ?_
        refine a_iald (f := 2) (N := 6) C rfl (by decide) (by first | omega | exact bi_rng _) dL_law_711 ?_
        rw [e2]
        refine x_icmp_ne (tgt := 719) C dL_law_712 (by decide) (by first | omega | exact bi_rng _) (by first | omega | exact bi_rng _) (fun h712 => ?_) (fun h712 => ?_)
        ·
          refine x_aload C dL_law_719 rfl ?_
          refine x_iload C dL_law_721 rfl ?_
          refine a_iald (f := 4) (N := 6) C rfl (by decide) (by first | omega | exact bi_rng _) dL_law_723 ?_
          refine a_iast (f := 4) (N := 6) C rfl (by decide) (by first | omega | exact bi_rng _) (wsA_st4 _ _ _ (by first | omega | exact bi_rng _) _) dL_law_724 ?_
          refine x_iinc C dL_law_725 (by rw [hn]; exact Nat.le_of_ble_eq_true rfl) rfl ?_
          refine x_goto (tgt := 691) C dL_law_728 (by decide) ?_
          exact X.to (ih2 (i + 1) (mset V2 4 i _) (by omega) (by omega) (fun k9 hk9 => by rw [mset_row hk9]; exact hr k9 hk9) (fun j j0 j1 => by
            rw [mset_at]
            have g5 := hr4 j j0 j1
            split
            · rename_i hj; subst hj; split <;> split at g5 <;> omega
            · split <;> split at g5 <;> omega)) (lsc (rfl) (lsc (rfl) (lsc (rfl) (lsc (rfl) (lsc (rfl) (lsc (rfl) (lsc (rfl) (lsc (rfl) (lsc (rfl) (lsc (rfl) (lsc (rfl) (lsc (rfl) (lsc (rfl) (lsc (rfl) (lsc (rfl) (lsc (rfl) (lsc (rfl) (lsc (lkv (by omega)) (lsn)))))))))))))))))))
        ·
          refine x_iconst C dL_law_715 ?_
          refine x_goto (tgt := 724) C dL_law_716 (by decide) ?_
          refine a_iast (f := 4) (N := 6) C rfl (by decide) (by first | omega | exact bi_rng _) (wsA_st4 _ _ _ (by first | omega | exact bi_rng _) _) dL_law_724 ?_
          refine x_iinc C dL_law_725 (by rw [hn]; exact Nat.le_of_ble_eq_true rfl) rfl ?_
          refine x_goto (tgt := 691) C dL_law_728 (by decide) ?_
          exact X.to (ih2 (i + 1) (mset V2 4 i _) (by omega) (by omega) (fun k9 hk9 => by rw [mset_row hk9]; exact hr k9 hk9) (fun j j0 j1 => by
            rw [mset_at]
            have g5 := hr4 j j0 j1
            split
            · rename_i hj; subst hj; split <;> split at g5 <;> omega
            · split <;> split at g5 <;> omega)) (lsc (rfl) (lsc (rfl) (lsc (rfl) (lsc (rfl) (lsc (rfl) (lsc (rfl) (lsc (rfl) (lsc (rfl) (lsc (rfl) (lsc (rfl) (lsc (rfl) (lsc (rfl) (lsc (rfl) (lsc (rfl) (lsc (rfl) (lsc (rfl) (lsc (rfl) (lsc (lkv (by omega)) (lsn)))))))))))))))))))
  have loop1 : ∀ (f i : Nat) (V1 : MS), (i : Int) ≤ M 2 0 → M 2 0 - i < f → (∀ k, k ≠ 0 → V1 k = V k) → (∀ j, 0 ≤ j → j < M 2 0 → V1 0 j = if j < i ∧ blg M j (nn nd) then -1 else V 0 j) → X φ (LA cy ba (h, V1)) k n 648 [(0, vr (some bs)), (1, vr (some ob)), (2, vr (some (ba 0))), (3, vr (some (ba 1))), (4, vr (some (ba 2))), (5, vr (some (ba 3))), (6, vr (some (ba 4))), (7, vi (M 2 0)), (8, vi (M 1 0)), (9, vi t), (10, vi x), (11, vi y), (12, vi kd), (13, vi dv), (14, vi ac), (15, vi nd), (16, vi (evF M (nn nd) (-1) i)), (17, vi (i : Int))] [] := by
    intro f
    induction f with
    | zero => intro i V1 h1 h2; omega
    | succ f ih =>
      intro i V1 h1 h2 hc h0
      have hF := forI_f M (nn nd) i
      have hL1 := hL.fi hc h0
      have hM1 : MI (forI M (nn nd) i) := hF.mi hM
      have hN1 : forI M (nn nd) i 2 0 ≤ 50 := by rw [hF.1 2 (by decide)]; exact hN
      have hn2 : forI M (nn nd) i 2 0 = M 2 0 := by rw [hF.1 2 (by decide)]
      have hP1 : ∀ j, 0 ≤ j → j < 6 → V1 2 j = forI M (nn nd) i 27 (nn j) := fun j j0 j1 => by
        rw [hc 2 (by decide), hF.1 27 (by decide)]
        exact hP j j0 j1
      have hbl : blg (forI M (nn nd) i) i (nn nd) ↔ blg M i (nn nd) := hF.bl
      have hev1 : blg M i (nn nd) → evF M (nn nd) (-1) i + 1 = evF M (nn nd) (-1) (i + 1) := fun g => by
        show _ = evF M (nn nd) (-1) i + (if blg M i (nn nd) ∧ ((-1 : Int) = -1 ∨ M 6 i = -1) then 1 else 0)
        rw [if_pos ⟨g, Or.inl rfl⟩]
      have hev0 : ¬ blg M i (nn nd) → evF M (nn nd) (-1) i = evF M (nn nd) (-1) (i + 1) := fun g => by
        show _ = evF M (nn nd) (-1) i + (if blg M i (nn nd) ∧ ((-1 : Int) = -1 ∨ M 6 i = -1) then 1 else 0)
        rw [if_neg (fun q => g q.1)]
        omega
      have hset : blg M i (nn nd) → ∀ j : Int, 0 ≤ j → j < M 2 0 → mset V1 0 i (-1) 0 j = if j < (i + 1 : Nat) ∧ blg M j (nn nd) then -1 else V 0 j := fun g j j0 j1 => by
        rw [mset_at]
        by_cases hj : j = i
        · subst hj
          rw [if_pos rfl, if_pos ⟨by omega, g⟩]
        · rw [if_neg hj, h0 j j0 j1]
          by_cases hb : blg M j (nn nd)
          · by_cases hji : j < i
            · rw [if_pos ⟨hji, hb⟩, if_pos ⟨by omega, hb⟩]
            · rw [if_neg (fun q => hji q.1), if_neg (fun q => by omega)]
          · rw [if_neg (fun q => hb q.2), if_neg (fun q => hb q.2)]
      have hsame : ¬ blg M i (nn nd) → ∀ j : Int, 0 ≤ j → j < M 2 0 → V1 0 j = if j < (i + 1 : Nat) ∧ blg M j (nn nd) then -1 else V 0 j := fun g j j0 j1 => by
        rw [h0 j j0 j1]
        by_cases hb : blg M j (nn nd)
        · by_cases hj : j = i
          · subst hj; exact absurd hb g
          · by_cases hji : j < i
            · rw [if_pos ⟨hji, hb⟩, if_pos ⟨by omega, hb⟩]
            · rw [if_neg (fun q => hji q.1), if_neg (fun q => by omega)]
        · rw [if_neg (fun q => hb q.2), if_neg (fun q => hb q.2)]
      refine x_iload C dL_law_648 rfl ?_
      refine x_iload C dL_law_650 rfl ?_
      refine x_icmp_ge (tgt := 688) C dL_law_652 (by decide) (by first | omega | exact bi_rng _) (by first | omega | exact bi_rng _) (fun h652 => ?_) (fun h652 => ?_)
      ·
        have hiN : (M 2 0).toNat = i := by omega
        refine x_iconst C dL_law_688 ?_
        refine x_istore C dL_law_689 (by rw [hn]; exact Nat.le_of_ble_eq_true rfl) ?_
        exact X.mono (by omega) (by omega) (X.to (loop2 V1 hc (fun j j0 j1 => by
          rw [h0 j j0 j1]
          by_cases hb : blg M j (nn nd)
          · rw [if_pos ⟨by omega, hb⟩, if_pos hb]
          · rw [if_neg (fun q9 => hb q9.2), if_neg hb]) 7 0 V1 (by omega) (by omega) (fun _ _ => rfl) (fun j j0 j1 => by rw [if_neg (by omega), hc 4 (by decide)])) (lsc (rfl) (lsc (rfl) (lsc (rfl) (lsc (rfl) (lsc (rfl) (lsc (rfl) (lsc (rfl) (lsc (rfl) (lsc (rfl) (lsc (rfl) (lsc (rfl) (lsc (rfl) (lsc (rfl) (lsc (rfl) (lsc (rfl) (lsc (rfl) (lsc (lkv (by rw [hiN])) (lsc (rfl) (lsn))))))))))))))))))))
      ·
        refine x_aload_n C dL_law_655 rfl rfl ?_
        refine x_aload_n C dL_law_656 rfl rfl ?_
        refine x_aload C dL_law_657 rfl ?_
        refine x_iload C dL_law_659 rfl ?_
        refine x_iload C dL_law_661 rfl ?_
        refine x_callS C hR cb_L_belongs u10_16 u10_15 (k_L_belongs hst hL1 hM1 hN1 hP1 (by omega) hnd) rfl (Nat.le_of_ble_eq_true rfl) rfl dL_law_663 (by decide) (by show _ ≤ 600074 ∧ _ ≤ 7301550; omega) (fun E x9 h9 => absurd h9.1 (by intro h; cases h)) (fun r9 x9 h9 => ?_)
        obtain ⟨e9, rfl⟩ := h9
        cases e9
        rw [bi_congr hbl]
        refine x_if_ne (tgt := 672) C dL_law_666 (by decide) (by first | omega | exact bi_rng _) (fun h666 => ?_) (fun h666 => ?_)
        ·
          replace h666 := bi_ne0.mp h666
          refine x_iinc C dL_law_672 (by rw [hn]; exact Nat.le_of_ble_eq_true rfl) rfl ?_
          refine x_aload_n C dL_law_675 rfl rfl ?_
          refine x_iload C dL_law_676 rfl ?_
          refine x_ldc2 (z := -1) C u0_6 (by decide) dL_law_678 ?_
          refine a_last C (by first | omega | exact bi_rng _) dL_law_681 ?_
          refine x_iinc C dL_law_682 (by rw [hn]; exact Nat.le_of_ble_eq_true rfl) rfl ?_
          refine x_goto (tgt := 648) C dL_law_685 (by decide) ?_
          first | exact X.to (ih (i + 1) (mset V1 0 i _) (by omega) (by omega) (fun k9 hk9 => by rw [mset_row hk9]; exact hc k9 hk9) (hset h666)) (lsc (rfl) (lsc (rfl) (lsc (rfl) (lsc (rfl) (lsc (rfl) (lsc (rfl) (lsc (rfl) (lsc (rfl) (lsc (rfl) (lsc (rfl) (lsc (rfl) (lsc (rfl) (lsc (rfl) (lsc (rfl) (lsc (rfl) (lsc (rfl) (lsc (lkv (hev1 h666)) (lsc (lkv (by omega)) (lsn))))))))))))))))))) | exact X.to (ih (i + 1) V1 (by omega) (by omega) hc (hsame h666)) (lsc (rfl) (lsc (rfl) (lsc (rfl) (lsc (rfl) (lsc (rfl) (lsc (rfl) (lsc (rfl) (lsc (rfl) (lsc (rfl) (lsc (rfl) (lsc (rfl) (lsc (rfl) (lsc (rfl) (lsc (rfl) (lsc (rfl) (lsc (rfl) (lsc (lkv (hev0 h666)) (lsc (lkv (by omega)) (lsn)))))))))))))))))))
        ·
          replace h666 := bi_eq0.mp h666
          refine x_goto (tgt := 682) C dL_law_669 (by decide) ?_
          refine x_iinc C dL_law_682 (by rw [hn]; exact Nat.le_of_ble_eq_true rfl) rfl ?_
          refine x_goto (tgt := 648) C dL_law_685 (by decide) ?_
          first | exact X.to (ih (i + 1) (mset V1 0 i _) (by omega) (by omega) (fun k9 hk9 => by rw [mset_row hk9]; exact hc k9 hk9) (hset h666)) (lsc (rfl) (lsc (rfl) (lsc (rfl) (lsc (rfl) (lsc (rfl) (lsc (rfl) (lsc (rfl) (lsc (rfl) (lsc (rfl) (lsc (rfl) (lsc (rfl) (lsc (rfl) (lsc (rfl) (lsc (rfl) (lsc (rfl) (lsc (rfl) (lsc (lkv (hev1 h666)) (lsc (lkv (by omega)) (lsn))))))))))))))))))) | exact X.to (ih (i + 1) V1 (by omega) (by omega) hc (hsame h666)) (lsc (rfl) (lsc (rfl) (lsc (rfl) (lsc (rfl) (lsc (rfl) (lsc (rfl) (lsc (rfl) (lsc (rfl) (lsc (rfl) (lsc (rfl) (lsc (rfl) (lsc (rfl) (lsc (rfl) (lsc (rfl) (lsc (rfl) (lsc (rfl) (lsc (lkv (hev0 h666)) (lsc (lkv (by omega)) (lsn)))))))))))))))))))
  refine x_iconst C dL_law_642 ?_
  refine x_istore C dL_law_643 (by rw [hn]; exact Nat.le_of_ble_eq_true rfl) ?_
  refine x_iconst C dL_law_645 ?_
  refine x_istore C dL_law_646 (by rw [hn]; exact Nat.le_of_ble_eq_true rfl) ?_
  exact X.mono (by omega) (by omega) (X.to (loop1 ((M 2 0).toNat + 1) 0 V (by omega) (by omega) (fun _ _ => rfl) (fun j j0 j1 => by rw [if_neg (by omega)])) (lsc (rfl) (lsc (rfl) (lsc (rfl) (lsc (rfl) (lsc (rfl) (lsc (rfl) (lsc (rfl) (lsc (rfl) (lsc (rfl) (lsc (rfl) (lsc (rfl) (lsc (rfl) (lsc (rfl) (lsc (rfl) (lsc (rfl) (lsc (rfl) (lsc (rfl) (lsc (rfl) (lsn))))))))))))))))))))

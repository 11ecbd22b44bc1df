/-! groups, tell, forget of the reference -/
set_option maxRecDepth 100000 in
set_option maxHeartbeats 4000000 in
theorem k_X7_groups {l : Launch} {D : va_G} {cy : CY} (hst : l.stackTraces = false) {b : Nat → Nat} {t : Int} {M : MS} {node : Int} (hM : MI M) (hnode : -2147483648 ≤ node ∧ node ≤ 2147483647) : Ct l D cy yX7_groups (Cond.code yX7_groups cX7_groups 4 (some .int)) 4 99 0 0 (IM cy b) [vr (some (b 0)), vi node] (t, M) (fun r q' => ((0 ≤ node ∧ node ≤ 19) ∧ (∃ M1, Fnd M M1 ∧ r = .ok (some (vi (grF M1 node (M1 17 0).toNat))) ∧ q' = (0, M1))) ∨ (¬ ((0 ≤ node ∧ node ≤ 19)) ∧ r = .ok (some (vi 0)) ∧ q' = (1, M))) := by
  refine Ct.of1 (own := RX7) hst (by decide) rfl (Nat.le_of_ble_eq_true rfl) (cat1 (vr_cat _) (cat1 (vi_cat _) (cat0))) ?_
  intro φ C hQ hn hR hl hD
  subst hl hD
  refine x_aload_n C dX7_groups_0 rfl rfl ?_
  refine x_aload_n C dX7_groups_1 rfl rfl ?_
  refine x_iload_n C dX7_groups_2 rfl rfl ?_
  refine x_callV C hR cb_X7_isNode cv_X7_isNode u11_19 (k_X7_isNode hst (by omega)) m_recv ⟨_, _, rfl⟩ rfl (Nat.le_of_ble_eq_true rfl) rfl dX7_groups_3 (by decide) (by decide) (fun E x9 h9 => absurd h9.1 (by intro h; cases h)) (fun r9 x9 h9 => ?_)
  obtain ⟨e9, rfl⟩ := h9
  cases e9
  refine x_if_eq (tgt := 13) C dX7_groups_6 (by decide) (by first | omega | exact bi_rng _) (fun h6 => ?_) (fun h6 => ?_)
  ·
    replace h6 := bi_eq0.mp h6
    refine x_iconst C dX7_groups_13 ?_
    refine m_put (f := 0) C (by decide) u7_8 rfl rfl (by decide +kernel) (wsM_put0 _ _ _ _ _) dX7_groups_14 ?_
    refine x_aload_n C dX7_groups_17 rfl rfl ?_
    refine m_get (f := 0) C (by decide) u7_8 rfl rfl dX7_groups_18 ?_
    refine x_if_le (tgt := 26) C dX7_groups_21 (by decide) (by decide) (fun h => absurd h (by decide)) (fun _ => ?_)
    refine x_iconst C dX7_groups_24 ?_
    refine x_iret (ty := .int) C hQ dX7_groups_25 rfl rfl (by decide) (by decide) ?_
    exact Or.inr ⟨by omega, rfl, rfl⟩
  ·
    replace h6 := bi_ne0.mp h6
    refine x_iconst C dX7_groups_9 ?_
    refine x_goto (tgt := 14) C dX7_groups_10 (by decide) ?_
    refine m_put (f := 0) C (by decide) u7_8 rfl rfl (by decide +kernel) (wsM_put0 _ _ _ _ _) dX7_groups_14 ?_
    refine x_aload_n C dX7_groups_17 rfl rfl ?_
    refine m_get (f := 0) C (by decide) u7_8 rfl rfl dX7_groups_18 ?_
    refine x_if_le (tgt := 26) C dX7_groups_21 (by decide) (by decide) (fun _ => ?_) (fun h => absurd h (by decide))
    refine x_aload_n C dX7_groups_26 rfl rfl ?_
    refine x_callV C hR cb_X7_finds cv_X7_finds u14_11 (k_X7_finds hst hM) m_recv ⟨_, _, rfl⟩ rfl (Nat.le_of_ble_eq_true rfl) rfl dX7_groups_27 (by decide) (by decide) (fun E x9 h9 => absurd h9.1 (by intro h; cases h)) (fun r9 x9 h9 => ?_)
    obtain ⟨e9, M1, hs1, hlo1, rfl⟩ := h9
    cases e9
    have hF : Fnd M M1 := ⟨hs1, hlo1⟩
    have hM1 := hF.MI hM
    have hn1 : M1 2 0 = M 2 0 := by rw [hs1 2 (by decide)]
    have hN1 := hM1.n
    have hg1 := hM1.gn
    obtain ⟨G, hGe⟩ : ∃ G : Nat, (G : Int) = M1 17 0 := ⟨(M1 17 0).toNat, Int.toNat_of_nonneg hg1.1⟩
    refine x_iconst C dX7_groups_30 ?_
    refine x_istore_n C dX7_groups_31 rfl (by rw [hn]; exact Nat.le_of_ble_eq_true rfl) ?_
    refine x_iconst C dX7_groups_32 ?_
    refine x_istore_n C dX7_groups_33 rfl (by rw [hn]; exact Nat.le_of_ble_eq_true rfl) ?_
    have loop : ∀ (f i : Nat), i ≤ G → G - i < f → X φ (IM cy b (0, M1)) 0 0 34 [(0, vr (some (b 0))), (1, vi node), (2, vi (grF M1 node i)), (3, vi (i : Int))] [] := by
      intro f
      induction f with
      | zero => intro i h1 h2; omega
      | succ f ih =>
        intro i h1 h2
        refine x_iload_n C dX7_groups_34 rfl rfl ?_
        refine x_aload_n C dX7_groups_35 rfl rfl ?_
        refine m_get (f := 17) C (by decide) u13_6 rfl rfl dX7_groups_36 ?_
        refine x_icmp_ge (tgt := 67) C dX7_groups_39 (by decide) (by first | omega | exact bi_rng _) (by first | omega | exact bi_rng _) (fun h39 => ?_) (fun h39 => ?_)
        ·
          refine x_iload_n C dX7_groups_67 rfl rfl ?_
          refine x_iret (ty := .int) C hQ dX7_groups_68 rfl rfl (by decide) (by decide) ?_
          exact Or.inl ⟨by omega, M1, hF, rv (by rw [show i = (M1 17 0).toNat by omega]), rfl⟩
        ·
          refine x_iload_n C dX7_groups_42 rfl rfl ?_
          refine x_aload_n C dX7_groups_43 rfl rfl ?_
          refine x_iload_n C dX7_groups_44 rfl rfl ?_
          refine x_iload_n C dX7_groups_45 rfl rfl ?_
          refine x_callV C hR cb_X7_isMember cv_X7_isMember u23_2 (k_X7_isMember hst hM1 (by omega) (by omega)) m_recv ⟨_, _, rfl⟩ rfl (Nat.le_of_ble_eq_true rfl) rfl dX7_groups_46 (by decide) (by decide) (fun E x9 h9 => absurd h9.1 (by intro h; cases h)) (fun r9 x9 h9 => ?_)
          obtain ⟨e9, rfl⟩ := h9
          cases e9
          refine x_if_eq (tgt := 58) C dX7_groups_49 (by decide) (by first | omega | exact bi_rng _) (fun h49 => ?_) (fun h49 => ?_)
          ·
            replace h49 := bi_eq0.mp h49
            refine x_iconst C dX7_groups_58 ?_
            refine x_ior C dX7_groups_59 ?_
            refine x_istore_n C dX7_groups_60 rfl (by rw [hn]; exact Nat.le_of_ble_eq_true rfl) ?_
            refine x_iinc C dX7_groups_61 (by rw [hn]; exact Nat.le_of_ble_eq_true rfl) rfl ?_
            refine x_goto (tgt := 34) C dX7_groups_64 (by decide) ?_
            exact X.to (ih (i + 1) (by omega) (by omega)) (lsc rfl (lsc rfl (lsc (lkv (by simp only [grF]; split <;> first | rfl | omega)) (lsc rfl lsn))))
          ·
            replace h49 := bi_ne0.mp h49
            refine x_iconst C dX7_groups_52 ?_
            refine x_iload_n C dX7_groups_53 rfl rfl ?_
            refine x_ishl C dX7_groups_54 ?_
            refine x_goto (tgt := 59) C dX7_groups_55 (by decide) ?_
            refine x_ior C dX7_groups_59 ?_
            refine x_istore_n C dX7_groups_60 rfl (by rw [hn]; exact Nat.le_of_ble_eq_true rfl) ?_
            refine x_iinc C dX7_groups_61 (by rw [hn]; exact Nat.le_of_ble_eq_true rfl) rfl ?_
            refine x_goto (tgt := 34) C dX7_groups_64 (by decide) ?_
            exact X.to (ih (i + 1) (by omega) (by omega)) (lsc rfl (lsc rfl (lsc (lkv (by simp only [grF]; split <;> first | rfl | omega)) (lsc rfl lsn))))
    exact X.to (loop (G + 1) 0 (by omega) (by omega)) (lsc rfl (lsc rfl (lsc rfl (lsc rfl (lsn)))))

set_option maxRecDepth 100000 in
set_option maxHeartbeats 4000000 in
theorem k_X7_forget {l : Launch} {D : va_G} {cy : CY} (hst : l.stackTraces = false) {b : Nat → Nat} {t : Int} {M : MS} {node : Int} (hM : MI M) (hnode : -2147483648 ≤ node ∧ node ≤ 2147483647) : Ct l D cy yX7_forget (Cond.code yX7_forget cX7_forget 5 (some .int)) 2 46 0 0 (IM cy b) [vr (some (b 0)), vi node] (t, M) (fun r q' => ((0 ≤ node ∧ node ≤ 19) ∧ (∃ M1 M2, Fnd M M1 ∧ ForR M1 M2 node ∧ r = .ok (some (vi (evF M1 node (-1) (M1 2 0).toNat))) ∧ q' = (0, M2))) ∨ (¬ ((0 ≤ node ∧ node ≤ 19)) ∧ r = .ok (some (vi 0)) ∧ q' = (1, M))) := by
  refine Ct.of1 (own := RX7) hst (by decide) rfl (Nat.le_of_ble_eq_true rfl) (cat1 (vr_cat _) (cat1 (vi_cat _) (cat0))) ?_
  intro φ C hQ hn hR hl hD
  subst hl hD
  refine x_aload_n C dX7_forget_0 rfl rfl ?_
  refine x_aload_n C dX7_forget_1 rfl rfl ?_
  refine x_iload_n C dX7_forget_2 rfl rfl ?_
  refine x_callV C hR cb_X7_isNode cv_X7_isNode u11_19 (k_X7_isNode hst (by omega)) m_recv ⟨_, _, rfl⟩ rfl (Nat.le_of_ble_eq_true rfl) rfl dX7_forget_3 (by decide) (by decide) (fun E x9 h9 => absurd h9.1 (by intro h; cases h)) (fun r9 x9 h9 => ?_)
  obtain ⟨e9, rfl⟩ := h9
  cases e9
  refine x_if_eq (tgt := 13) C dX7_forget_6 (by decide) (by first | omega | exact bi_rng _) (fun h6 => ?_) (fun h6 => ?_)
  ·
    replace h6 := bi_eq0.mp h6
    refine x_iconst C dX7_forget_13 ?_
    refine m_put (f := 0) C (by decide) u7_8 rfl rfl (by decide +kernel) (wsM_put0 _ _ _ _ _) dX7_forget_14 ?_
    refine x_aload_n C dX7_forget_17 rfl rfl ?_
    refine m_get (f := 0) C (by decide) u7_8 rfl rfl dX7_forget_18 ?_
    refine x_if_le (tgt := 26) C dX7_forget_21 (by decide) (by decide) (fun h => absurd h (by decide)) (fun _ => ?_)
    refine x_iconst C dX7_forget_24 ?_
    refine x_iret (ty := .int) C hQ dX7_forget_25 rfl rfl (by decide) (by decide) ?_
    exact Or.inr ⟨by omega, rfl, rfl⟩
  ·
    replace h6 := bi_ne0.mp h6
    refine x_iconst C dX7_forget_9 ?_
    refine x_goto (tgt := 14) C dX7_forget_10 (by decide) ?_
    refine m_put (f := 0) C (by decide) u7_8 rfl rfl (by decide +kernel) (wsM_put0 _ _ _ _ _) dX7_forget_14 ?_
    refine x_aload_n C dX7_forget_17 rfl rfl ?_
    refine m_get (f := 0) C (by decide) u7_8 rfl rfl dX7_forget_18 ?_
    refine x_if_le (tgt := 26) C dX7_forget_21 (by decide) (by decide) (fun _ => ?_) (fun h => absurd h (by decide))
    refine x_aload_n C dX7_forget_26 rfl rfl ?_
    refine x_callV C hR cb_X7_finds cv_X7_finds u14_11 (k_X7_finds hst hM) m_recv ⟨_, _, rfl⟩ rfl (Nat.le_of_ble_eq_true rfl) rfl dX7_forget_27 (by decide) (by decide) (fun E x9 h9 => absurd h9.1 (by intro h; cases h)) (fun r9 x9 h9 => ?_)
    obtain ⟨e9, M1, hs1, hlo1, rfl⟩ := h9
    cases e9
    have hF : Fnd M M1 := ⟨hs1, hlo1⟩
    have hM1 := hF.MI hM
    have hn1 : M1 2 0 = M 2 0 := by rw [hs1 2 (by decide)]
    have hN1 := hM1.n
    obtain ⟨N, hNe⟩ : ∃ N : Nat, (N : Int) = M1 2 0 := ⟨(M1 2 0).toNat, Int.toNat_of_nonneg hN1.1⟩
    have nxt : ∀ (M2 : MS), (∀ k, k ≠ 9 → M2 k = M1 k) ∧ (∀ j : Int, M2 9 j = if 0 ≤ j ∧ j < M1 2 0 ∧ blg M1 j node then 1 else M1 9 j) → X φ (IM cy b (0, M2)) 0 0 94 [(0, vr (some (b 0))), (1, vi node), (2, vi (evF M1 node (-1) (M1 2 0).toNat))] [] := by
      intro M2 hFI
      have h27 : M2 27 = M1 27 := hFI.1 27 (by decide)
      have loop2 : ∀ (f i : Nat) (M3 : MS), FC M2 M3 node (4 * i) → i ≤ 20 → 20 - i < f → X φ (IM cy b (0, M3)) 0 0 96 [(0, vr (some (b 0))), (1, vi node), (2, vi (evF M1 node (-1) (M1 2 0).toNat)), (3, vi (i : Int))] [] := by
        intro f
        induction f with
        | zero => intro i M3 _ h1 h2; omega
        | succ f ih =>
          intro i M3 hC h1 h2
          refine x_iload_n C dX7_forget_96 rfl rfl ?_
          refine x_bipush C dX7_forget_97 (by decide) ?_
          refine x_icmp_ge (tgt := 164) C dX7_forget_99 (by decide) (by first | omega | exact bi_rng _) (by first | omega | exact bi_rng _) (fun h99 => ?_) (fun h99 => ?_)
          ·
            refine x_iload_n C dX7_forget_164 rfl rfl ?_
            refine x_iret (ty := .int) C hQ dX7_forget_165 rfl rfl (by decide) (by decide) ?_
            refine Or.inl ⟨by omega, M1, M3, hF, ⟨fun k h9 h14 => ?_, fun j => ?_, fun j => ?_⟩, rfl, rfl⟩
            · rw [hC.1 k h14]; exact hFI.1 k h9
            · rw [hC.1 9 (by decide)]; exact hFI.2 j
            · rw [hC.2 j, show (4 * (i : Int)) = 80 by omega, h27, hFI.1 14 (by decide)]
          ·
            refine x_iconst C dX7_forget_102 ?_
            refine x_istore C dX7_forget_103 (by rw [hn]; exact Nat.le_of_ble_eq_true rfl) ?_
            have k158 : ∀ (M3 : MS), FC M2 M3 node (4 * ((i : Int) + 1)) → ∀ j : Nat, X φ (IM cy b (0, M3)) 0 0 158 [(0, vr (some (b 0))), (1, vi node), (2, vi (evF M1 node (-1) (M1 2 0).toNat)), (3, vi (i : Int)), (4, vi (j : Int))] [] := by
              intro M3 hC j
              refine x_iinc C dX7_forget_158 (by rw [hn]; exact Nat.le_of_ble_eq_true rfl) rfl ?_
              refine x_goto (tgt := 96) C dX7_forget_161 (by decide) ?_
              exact X.to (ih (i + 1) M3 hC (by omega) (by omega)) (lsc rfl (lsc rfl (lsc rfl (lsc rfl lsn))))
            have loop3 : ∀ (f2 j : Nat) (M3 : MS), FC M2 M3 node (4 * i + j) → j ≤ 4 → 4 - j < f2 → X φ (IM cy b (0, M3)) 0 0 105 [(0, vr (some (b 0))), (1, vi node), (2, vi (evF M1 node (-1) (M1 2 0).toNat)), (3, vi (i : Int)), (4, vi (j : Int))] [] := by
              intro f2
              induction f2 with
              | zero => intro j M3 _ h1 h2; omega
              | succ f2 ih2 =>
                intro j M3 hC hj1 hj2
                have h327 : M3 27 = M1 27 := by rw [hC.1 27 (by decide), h27]
                refine x_iload C dX7_forget_105 rfl ?_
                refine x_iconst C dX7_forget_107 ?_
                refine x_icmp_ge (tgt := 158) C dX7_forget_108 (by decide) (by first | omega | exact bi_rng _) (by first | omega | exact bi_rng _) (fun h108 => ?_) (fun h108 => ?_)
                ·
                  exact k158 M3 (by rw [show 4 * ((i : Int) + 1) = 4 * i + j by omega]; exact hC) j
                ·
                  refine x_aload_n C dX7_forget_111 rfl rfl ?_
                  refine m_get (f := 14) C (by decide) u2_11 rfl rfl dX7_forget_112 ?_
                  refine x_iconst C dX7_forget_115 ?_
                  refine x_iload_n C dX7_forget_116 rfl rfl ?_
                  refine x_imul C dX7_forget_117 ?_
                  refine x_iload C dX7_forget_118 rfl ?_
                  refine x_iadd C dX7_forget_120 ?_
                  refine x_aload_n C dX7_forget_121 rfl rfl ?_
                  refine m_get (f := 27) C (by decide) u2_21 rfl rfl dX7_forget_122 ?_
                  refine x_iload_n C dX7_forget_125 rfl rfl ?_
                  refine m_iald (f := 27) (q0 := 22) (N := 20) C rfl (by decide) (by first | omega | exact bi_rng _) dX7_forget_126 ?_
                  refine x_aload_n C dX7_forget_127 rfl rfl ?_
                  refine m_get (f := 27) C (by decide) u2_21 rfl rfl dX7_forget_128 ?_
                  refine x_iload_n C dX7_forget_131 rfl rfl ?_
                  refine m_iald (f := 27) (q0 := 22) (N := 20) C rfl (by decide) (by first | omega | exact bi_rng _) dX7_forget_132 ?_
                  have hl1 := hM1.low i (by omega) (by omega)
                  have hl2 := hM1.low node (by omega) (by omega)
                  rw [h327]
                  refine x_icmp_ne (tgt := 140) C dX7_forget_133 (by decide) (by first | omega | exact bi_rng _) (by first | omega | exact bi_rng _) (fun h133 => ?_) (fun h133 => ?_)
                  ·
                    refine x_aload_n C dX7_forget_140 rfl rfl ?_
                    refine m_get (f := 14) C (by decide) u2_11 rfl rfl dX7_forget_141 ?_
                    refine x_iconst C dX7_forget_144 ?_
                    refine x_iload_n C dX7_forget_145 rfl rfl ?_
                    refine x_imul C dX7_forget_146 ?_
                    refine x_iload C dX7_forget_147 rfl ?_
                    refine x_iadd C dX7_forget_149 ?_
                    refine m_iald (f := 14) (q0 := 12) (N := 80) C rfl (by decide) (by first | omega | exact bi_rng _) dX7_forget_150 ?_
                    have hv9 : M3 14 (4 * (i : Int) + j) = M2 14 (4 * i + j) := by (rw [hC.2, if_neg (by omega)])
                    rw [hv9]
                    refine m_iast (f := 14) (q0 := 12) (N := 80) C rfl (by decide) (by first | omega | exact bi_rng _) (wsM_st14 _ _ _ _ (by first | omega | exact bi_rng _) _) dX7_forget_151 ?_
                    refine x_iinc C dX7_forget_152 (by rw [hn]; exact Nat.le_of_ble_eq_true rfl) rfl ?_
                    refine x_goto (tgt := 105) C dX7_forget_155 (by decide) ?_
                    have hset : FC M2 (mset M3 14 (4 * (i : Int) + j) (M2 14 (4 * (i : Int) + j))) node (4 * i + j + 1) := FC.set hC (by omega) (by rw [show (4 * (i : Int) + j) / 4 = i by omega, h27]; split <;> first | omega | rfl)
                    exact X.to (ih2 (j + 1) _ (by rw [show (4 * (i : Int) + ((j + 1 : Nat) : Int)) = 4 * i + j + 1 by omega]; exact hset) (by omega) (by omega)) (lsc rfl (lsc rfl (lsc rfl (lsc rfl (lsc rfl lsn)))))
                  ·
                    refine x_iconst C dX7_forget_136 ?_
                    refine x_goto (tgt := 151) C dX7_forget_137 (by decide) ?_
                    skip
                    refine m_iast (f := 14) (q0 := 12) (N := 80) C rfl (by decide) (by first | omega | exact bi_rng _) (wsM_st14 _ _ _ _ (by first | omega | exact bi_rng _) _) dX7_forget_151 ?_
                    refine x_iinc C dX7_forget_152 (by rw [hn]; exact Nat.le_of_ble_eq_true rfl) rfl ?_
                    refine x_goto (tgt := 105) C dX7_forget_155 (by decide) ?_
                    have hset : FC M2 (mset M3 14 (4 * (i : Int) + j) 0) node (4 * i + j + 1) := FC.set hC (by omega) (by rw [show (4 * (i : Int) + j) / 4 = i by omega, h27]; split <;> first | omega | rfl)
                    exact X.to (ih2 (j + 1) _ (by rw [show (4 * (i : Int) + ((j + 1 : Nat) : Int)) = 4 * i + j + 1 by omega]; exact hset) (by omega) (by omega)) (lsc rfl (lsc rfl (lsc rfl (lsc rfl (lsc rfl lsn)))))
            exact X.to (loop3 5 0 M3 (by rw [show 4 * (i : Int) + ((0 : Nat) : Int) = 4 * i by omega]; exact hC) (by omega) (by omega)) (lsc rfl (lsc rfl (lsc rfl (lsc rfl (lsc rfl lsn)))))
      refine x_iconst C dX7_forget_94 ?_
      refine x_istore_n C dX7_forget_95 rfl (by rw [hn]; exact Nat.le_of_ble_eq_true rfl) ?_
      exact X.to (loop2 21 0 M2 ⟨fun _ _ => rfl, fun j => by rw [if_neg (by omega)]⟩ (by omega) (by omega)) (lsc rfl (lsc rfl (lsc rfl (lsc rfl lsn))))
    refine x_iconst C dX7_forget_30 ?_
    refine x_istore_n C dX7_forget_31 rfl (by rw [hn]; exact Nat.le_of_ble_eq_true rfl) ?_
    refine x_iconst C dX7_forget_32 ?_
    refine x_istore_n C dX7_forget_33 rfl (by rw [hn]; exact Nat.le_of_ble_eq_true rfl) ?_
    have loop : ∀ (f i : Nat) (M2 : MS), FI M1 M2 node i → i ≤ N → N - i < f → X φ (IM cy b (0, M2)) 0 0 34 [(0, vr (some (b 0))), (1, vi node), (2, vi (evF M1 node (-1) i)), (3, vi (i : Int))] [] := by
      intro f
      induction f with
      | zero => intro i M2 _ h1 h2; omega
      | succ f ih =>
        intro i M2 hI h1 h2
        have hM2 := hI.mi hM1
        have hn2 : M2 2 0 = M1 2 0 := by rw [hI.1 2 (by decide)]
        refine x_iload_n C dX7_forget_34 rfl rfl ?_
        refine x_aload_n C dX7_forget_35 rfl rfl ?_
        refine m_get (f := 2) C (by decide) u7_9 rfl rfl dX7_forget_36 ?_
        refine x_icmp_ge (tgt := 94) C dX7_forget_39 (by decide) (by first | omega | exact bi_rng _) (by first | omega | exact bi_rng _) (fun h39 => ?_) (fun h39 => ?_)
        ·
          refine X.to (nxt M2 ?_) (lsc rfl (lsc rfl (lsc (lkv (by rw [show i = (M1 2 0).toNat by omega])) lsn)))
          rw [show M1 2 0 = (i : Int) by omega]
          exact hI
        ·
          refine x_aload_n C dX7_forget_42 rfl rfl ?_
          refine x_iload_n C dX7_forget_43 rfl rfl ?_
          refine x_iload_n C dX7_forget_44 rfl rfl ?_
          refine x_callV C hR cb_X7_belongs cv_X7_belongs u14_19 (k_X7_belongs hst hM2 (by omega) (by omega)) m_recv ⟨_, _, rfl⟩ rfl (Nat.le_of_ble_eq_true rfl) rfl dX7_forget_45 (by decide) (by decide) (fun E x9 h9 => absurd h9.1 (by intro h; cases h)) (fun r9 x9 h9 => ?_)
          obtain ⟨e9, rfl⟩ := h9
          cases e9
          have hbe : bi (blg M2 i node) = bi (M1 9 i = 0 ∧ M1 27 (ndOf M1 i) = M1 27 node) := bi_congr hI.bl
          rw [hbe]
          refine x_istore C dX7_forget_48 (by rw [hn]; exact Nat.le_of_ble_eq_true rfl) ?_
          refine x_iload_n C dX7_forget_50 rfl rfl ?_
          refine x_iload C dX7_forget_51 rfl ?_
          refine x_if_eq (tgt := 60) C dX7_forget_53 (by decide) (by first | omega | exact bi_rng _) (fun h53 => ?_) (fun h53 => ?_)
          ·
            have hb9 : ¬ (M1 9 i = 0 ∧ M1 27 (ndOf M1 i) = M1 27 node) := bi_eq0.mp h53
            refine x_iconst C dX7_forget_60 ?_
            refine x_iadd C dX7_forget_61 ?_
            refine x_istore_n C dX7_forget_62 rfl (by rw [hn]; exact Nat.le_of_ble_eq_true rfl) ?_
            have g9 := hM2.b9 i
            refine x_aload_n C dX7_forget_63 rfl rfl ?_
            refine m_get (f := 9) C (by decide) u2_6 rfl rfl dX7_forget_64 ?_
            refine x_iload_n C dX7_forget_67 rfl rfl ?_
            refine x_aload_n C dX7_forget_68 rfl rfl ?_
            refine m_get (f := 9) C (by decide) u2_6 rfl rfl dX7_forget_69 ?_
            refine x_iload_n C dX7_forget_72 rfl rfl ?_
            refine m_zald (f := 9) (q0 := 7) (N := 200) C rfl (by decide) (by first | omega | exact bi_rng _) dX7_forget_73 ?_
            refine x_if_ne (tgt := 82) C dX7_forget_74 (by decide) (by first | omega | exact bi_rng _) (fun h74 => ?_) (fun h74 => ?_)
            ·
              refine x_iconst C dX7_forget_82 ?_
              refine x_goto (tgt := 87) C dX7_forget_83 (by decide) ?_
              skip
              refine m_zast (f := 9) (q0 := 7) (N := 200) C rfl (by decide) (by first | omega | exact bi_rng _) (by decide) (wsM_st9 _ _ _ _ (by first | omega | exact bi_rng _) _) dX7_forget_87 ?_
              refine x_iinc C dX7_forget_88 (by rw [hn]; exact Nat.le_of_ble_eq_true rfl) rfl ?_
              refine x_goto (tgt := 34) C dX7_forget_91 (by decide) ?_
              first
              | (exfalso; omega)
              | (have hset : FI M1 (mset M2 9 i 1) node (i + 1) := FI.set hM1 hI (by split <;> first | omega | exact (bi_t hb9).symm | exact (bi_f hb9).symm)
                 exact X.to (ih (i + 1) _ hset (by omega) (by omega)) (lsc rfl (lsc rfl (lsc (lkv (by simp only [evF, true_or, and_true]; split <;> omega)) (lsc rfl lsn)))))
            ·
              refine x_iload C dX7_forget_77 rfl ?_
              refine x_if_eq (tgt := 86) C dX7_forget_79 (by decide) (by first | omega | exact bi_rng _) (fun h79 => ?_) (fun h79 => ?_)
              ·
                refine x_iconst C dX7_forget_86 ?_
                skip
                refine m_zast (f := 9) (q0 := 7) (N := 200) C rfl (by decide) (by first | omega | exact bi_rng _) (by decide) (wsM_st9 _ _ _ _ (by first | omega | exact bi_rng _) _) dX7_forget_87 ?_
                refine x_iinc C dX7_forget_88 (by rw [hn]; exact Nat.le_of_ble_eq_true rfl) rfl ?_
                refine x_goto (tgt := 34) C dX7_forget_91 (by decide) ?_
                first
                | (exfalso; omega)
                | (have hset : FI M1 (mset M2 9 i 0) node (i + 1) := FI.set hM1 hI (by split <;> first | omega | exact (bi_t hb9).symm | exact (bi_f hb9).symm)
                   exact X.to (ih (i + 1) _ hset (by omega) (by omega)) (lsc rfl (lsc rfl (lsc (lkv (by simp only [evF, true_or, and_true]; split <;> omega)) (lsc rfl lsn)))))
              ·
                refine x_iconst C dX7_forget_82 ?_
                refine x_goto (tgt := 87) C dX7_forget_83 (by decide) ?_
                skip
                refine m_zast (f := 9) (q0 := 7) (N := 200) C rfl (by decide) (by first | omega | exact bi_rng _) (by decide) (wsM_st9 _ _ _ _ (by first | omega | exact bi_rng _) _) dX7_forget_87 ?_
                refine x_iinc C dX7_forget_88 (by rw [hn]; exact Nat.le_of_ble_eq_true rfl) rfl ?_
                refine x_goto (tgt := 34) C dX7_forget_91 (by decide) ?_
                first
                | (exfalso; omega)
                | (have hset : FI M1 (mset M2 9 i 1) node (i + 1) := FI.set hM1 hI (by split <;> first | omega | exact (bi_t hb9).symm | exact (bi_f hb9).symm)
                   exact X.to (ih (i + 1) _ hset (by omega) (by omega)) (lsc rfl (lsc rfl (lsc (lkv (by simp only [evF, true_or, and_true]; split <;> omega)) (lsc rfl lsn)))))
          ·
            have hb9 : M1 9 i = 0 ∧ M1 27 (ndOf M1 i) = M1 27 node := bi_ne0.mp h53
            refine x_iconst C dX7_forget_56 ?_
            refine x_goto (tgt := 61) C dX7_forget_57 (by decide) ?_
            refine x_iadd C dX7_forget_61 ?_
            refine x_istore_n C dX7_forget_62 rfl (by rw [hn]; exact Nat.le_of_ble_eq_true rfl) ?_
            have g9 := hM2.b9 i
            refine x_aload_n C dX7_forget_63 rfl rfl ?_
            refine m_get (f := 9) C (by decide) u2_6 rfl rfl dX7_forget_64 ?_
            refine x_iload_n C dX7_forget_67 rfl rfl ?_
            refine x_aload_n C dX7_forget_68 rfl rfl ?_
            refine m_get (f := 9) C (by decide) u2_6 rfl rfl dX7_forget_69 ?_
            refine x_iload_n C dX7_forget_72 rfl rfl ?_
            refine m_zald (f := 9) (q0 := 7) (N := 200) C rfl (by decide) (by first | omega | exact bi_rng _) dX7_forget_73 ?_
            refine x_if_ne (tgt := 82) C dX7_forget_74 (by decide) (by first | omega | exact bi_rng _) (fun h74 => ?_) (fun h74 => ?_)
            ·
              refine x_iconst C dX7_forget_82 ?_
              refine x_goto (tgt := 87) C dX7_forget_83 (by decide) ?_
              skip
              refine m_zast (f := 9) (q0 := 7) (N := 200) C rfl (by decide) (by first | omega | exact bi_rng _) (by decide) (wsM_st9 _ _ _ _ (by first | omega | exact bi_rng _) _) dX7_forget_87 ?_
              refine x_iinc C dX7_forget_88 (by rw [hn]; exact Nat.le_of_ble_eq_true rfl) rfl ?_
              refine x_goto (tgt := 34) C dX7_forget_91 (by decide) ?_
              first
              | (exfalso; omega)
              | (have hset : FI M1 (mset M2 9 i 1) node (i + 1) := FI.set hM1 hI (by split <;> first | omega | exact (bi_t hb9).symm | exact (bi_f hb9).symm)
                 exact X.to (ih (i + 1) _ hset (by omega) (by omega)) (lsc rfl (lsc rfl (lsc (lkv (by simp only [evF, true_or, and_true]; split <;> omega)) (lsc rfl lsn)))))
            ·
              refine x_iload C dX7_forget_77 rfl ?_
              refine x_if_eq (tgt := 86) C dX7_forget_79 (by decide) (by first | omega | exact bi_rng _) (fun h79 => ?_) (fun h79 => ?_)
              ·
                refine x_iconst C dX7_forget_86 ?_
                skip
                refine m_zast (f := 9) (q0 := 7) (N := 200) C rfl (by decide) (by first | omega | exact bi_rng _) (by decide) (wsM_st9 _ _ _ _ (by first | omega | exact bi_rng _) _) dX7_forget_87 ?_
                refine x_iinc C dX7_forget_88 (by rw [hn]; exact Nat.le_of_ble_eq_true rfl) rfl ?_
                refine x_goto (tgt := 34) C dX7_forget_91 (by decide) ?_
                first
                | (exfalso; omega)
                | (have hset : FI M1 (mset M2 9 i 0) node (i + 1) := FI.set hM1 hI (by split <;> first | omega | exact (bi_t hb9).symm | exact (bi_f hb9).symm)
                   exact X.to (ih (i + 1) _ hset (by omega) (by omega)) (lsc rfl (lsc rfl (lsc (lkv (by simp only [evF, true_or, and_true]; split <;> omega)) (lsc rfl lsn)))))
              ·
                refine x_iconst C dX7_forget_82 ?_
                refine x_goto (tgt := 87) C dX7_forget_83 (by decide) ?_
                skip
                refine m_zast (f := 9) (q0 := 7) (N := 200) C rfl (by decide) (by first | omega | exact bi_rng _) (by decide) (wsM_st9 _ _ _ _ (by first | omega | exact bi_rng _) _) dX7_forget_87 ?_
                refine x_iinc C dX7_forget_88 (by rw [hn]; exact Nat.le_of_ble_eq_true rfl) rfl ?_
                refine x_goto (tgt := 34) C dX7_forget_91 (by decide) ?_
                first
                | (exfalso; omega)
                | (have hset : FI M1 (mset M2 9 i 1) node (i + 1) := FI.set hM1 hI (by split <;> first | omega | exact (bi_t hb9).symm | exact (bi_f hb9).symm)
                   exact X.to (ih (i + 1) _ hset (by omega) (by omega)) (lsc rfl (lsc rfl (lsc (lkv (by simp only [evF, true_or, and_true]; split <;> omega)) (lsc rfl lsn)))))
    exact X.to (loop (N + 1) 0 M1 ⟨fun _ _ => rfl, fun j => by rw [if_neg (by omega)]⟩ (by omega) (by omega)) (lsc rfl (lsc rfl (lsc rfl (lsc rfl (lsn)))))

set_option maxRecDepth 100000 in
set_option maxHeartbeats 4000000 in
theorem k_X7_tell {l : Launch} {D : va_G} {cy : CY} (hst : l.stackTraces = false) {b : Nat → Nat} {t : Int} {M : MS}  (hM : MI M) : Ct l D cy yX7_tell (Cond.code yX7_tell cX7_tell 5 (some .int)) 4 99 0 0 (IM cy b) [vr (some (b 0))] (t, M) (fun r q' => (∃ M1 M2, Fnd M M1 ∧ TellR M1 M2 ∧ r = .ok (some (vi (M2 24 0))) ∧ q' = (0, M2))) := by
  refine Ct.of1 (own := RX7) hst (by decide) rfl (Nat.le_of_ble_eq_true rfl) (cat1 (vr_cat _) (cat0)) ?_
  intro φ C hQ hn hR hl hD
  subst hl hD
  refine x_aload_n C dX7_tell_0 rfl rfl ?_
  refine x_iconst C dX7_tell_1 ?_
  refine m_put (f := 0) C (by decide) u7_8 rfl rfl (by decide +kernel) (wsM_put0 _ _ _ _ _) dX7_tell_2 ?_
  refine x_aload_n C dX7_tell_5 rfl rfl ?_
  refine x_callV C hR cb_X7_finds cv_X7_finds u14_11 (k_X7_finds hst hM) m_recv ⟨_, _, rfl⟩ rfl (Nat.le_of_ble_eq_true rfl) rfl dX7_tell_6 (by decide) (by decide) (fun E x9 h9 => absurd h9.1 (by intro h; cases h)) (fun r9 x9 h9 => ?_)
  obtain ⟨e9, M1, hs1, hlo1, rfl⟩ := h9
  cases e9
  have hF : Fnd M M1 := ⟨hs1, hlo1⟩
  have hM1 := hF.MI hM
  have hn1 : M1 2 0 = M 2 0 := by rw [hs1 2 (by decide)]
  have hN1 := hM1.n
  have hg1 := hM1.gn
  obtain ⟨G, hGe⟩ : ∃ G : Nat, (G : Int) = M1 17 0 := ⟨(M1 17 0).toNat, Int.toNat_of_nonneg hg1.1⟩
  refine x_aload_n C dX7_tell_9 rfl rfl ?_
  refine x_iconst C dX7_tell_10 ?_
  refine m_put (f := 24) C (by decide) u24_12 rfl rfl (by decide +kernel) (wsM_put24 _ _ _ _ _) dX7_tell_11 ?_
  refine x_iconst C dX7_tell_14 ?_
  refine x_istore_n C dX7_tell_15 rfl (by rw [hn]; exact Nat.le_of_ble_eq_true rfl) ?_
  have loop : ∀ (f g : Nat) (M2 : MS), TI M1 M2 (20 * g) → g ≤ G → G - g < f → X φ (IM cy b (0, M2)) 0 0 16 [(0, vr (some (b 0))), (1, vi (g : Int))] [] := by
    intro f
    induction f with
    | zero => intro g M2 _ h1 h2; omega
    | succ f ih =>
      intro g M2 hT h1 h2
      have hg2 : M2 17 0 = M1 17 0 := by rw [hT.1 17 (by decide) (by decide) (by decide)]
      have hM2 := hT.mi hM1 (by omega)
      refine x_iload_n C dX7_tell_16 rfl rfl ?_
      refine x_aload_n C dX7_tell_17 rfl rfl ?_
      refine m_get (f := 17) C (by decide) u13_6 rfl rfl dX7_tell_18 ?_
      refine x_icmp_ge (tgt := 133) C dX7_tell_21 (by decide) (by first | omega | exact bi_rng _) (by first | omega | exact bi_rng _) (fun h21 => ?_) (fun h21 => ?_)
      ·
        refine x_aload_n C dX7_tell_133 rfl rfl ?_
        refine x_dup C dX7_tell_134 (by first | rfl | exact vr_cat _ | exact vi_cat _) ?_
        refine m_get (f := 26) C (by decide) u24_13 rfl rfl dX7_tell_135 ?_
        refine x_aload_n C dX7_tell_138 rfl rfl ?_
        refine m_get (f := 24) C (by decide) u24_12 rfl rfl dX7_tell_139 ?_
        refine x_iadd C dX7_tell_142 ?_
        refine m_put (f := 26) C (by decide) u24_13 rfl rfl (by decide +kernel) (wsM_put26 _ _ _ _ _) dX7_tell_143 ?_
        refine x_aload_n C dX7_tell_146 rfl rfl ?_
        refine m_get (f := 24) C (by decide) u24_12 rfl rfl dX7_tell_147 ?_
        change X φ _ _ _ _ _ (vi (M2 24 0) :: _)
        refine x_iret (ty := .int) C hQ dX7_tell_150 rfl rfl (by decide) (by decide) ?_
        refine ⟨M1, mset M2 26 0 (M2 26 0 + M2 24 0), hF, ?_, rfl, rfl⟩
        rw [show 20 * g = 20 * (M1 17 0).toNat by omega] at hT
        refine ⟨fun k h22 h24 h25 h26 => by rw [mset_row h26]; exact hT.1 k h22 h24 h25, by rw [mset_ne (by decide)]; exact hT.2.1, by rw [mset_eq, hT.1 26 (by decide) (by decide) (by decide), hT.2.1], fun j hj => by rw [mset_ne (by decide)]; exact hT.2.2.1 j hj, fun j => ?_⟩
        rw [mset_ne (by decide), hT.2.2.2 j]
        by_cases hj : 0 ≤ j ∧ j < 20 * M1 17 0 ∧ chg M1 j.toNat
        · rw [if_pos hj, if_pos ⟨hj.1, by omega, hj.2.2⟩]
        · rw [if_neg hj, if_neg (fun q => hj ⟨q.1, by omega, q.2.2⟩)]
      ·
        refine x_iconst C dX7_tell_24 ?_
        refine x_istore_n C dX7_tell_25 rfl (by rw [hn]; exact Nat.le_of_ble_eq_true rfl) ?_
        have k127 : ∀ (M2 : MS), TI M1 M2 (20 * (g + 1)) → ∀ j : Nat, X φ (IM cy b (0, M2)) 0 0 127 [(0, vr (some (b 0))), (1, vi (g : Int)), (2, vi (j : Int))] [] := by
          intro M2 hT j
          refine x_iinc C dX7_tell_127 (by rw [hn]; exact Nat.le_of_ble_eq_true rfl) rfl ?_
          refine x_goto (tgt := 16) C dX7_tell_130 (by decide) ?_
          exact X.to (ih (g + 1) M2 hT (by omega) (by omega)) (lsc rfl (lsc rfl lsn))
        have inner : ∀ (f2 i : Nat) (M2 : MS), TI M1 M2 (20 * g + i) → i ≤ 20 → 20 - i < f2 → X φ (IM cy b (0, M2)) 0 0 26 [(0, vr (some (b 0))), (1, vi (g : Int)), (2, vi (i : Int))] [] := by
          intro f2
          induction f2 with
          | zero => intro i M2 _ h1 h2; omega
          | succ f2 ih2 =>
            intro i M2 hT hi1 hi2
            have hM2 := hT.mi hM1 (by omega)
            have h323 : M2 23 = M1 23 := hT.1 23 (by decide) (by decide) (by decide)
            have hg2 : M2 17 0 = M1 17 0 := by rw [hT.1 17 (by decide) (by decide) (by decide)]
            have hdiv : i < 20 → (20 * g + i) / 20 = g := fun h => by omega
            have hmod : i < 20 → (20 * g + i) % 20 = i := fun h => by omega
            refine x_iload_n C dX7_tell_26 rfl rfl ?_
            refine x_bipush C dX7_tell_27 (by decide) ?_
            refine x_icmp_ge (tgt := 127) C dX7_tell_29 (by decide) (by first | omega | exact bi_rng _) (by first | omega | exact bi_rng _) (fun h29 => ?_) (fun h29 => ?_)
            ·
              exact k127 M2 (by rw [show 20 * (g + 1) = 20 * g + i by omega]; exact hT) i
            ·
              refine x_aload_n C dX7_tell_32 rfl rfl ?_
              refine m_get (f := 22) C (by decide) u2_18 rfl rfl dX7_tell_33 ?_
              refine x_bipush C dX7_tell_36 (by decide) ?_
              refine x_iload_n C dX7_tell_38 rfl rfl ?_
              refine x_imul C dX7_tell_39 ?_
              refine x_iload_n C dX7_tell_40 rfl rfl ?_
              refine x_iadd C dX7_tell_41 ?_
              refine m_zald (f := 22) (q0 := 19) (N := 160) C rfl (by decide) (by first | omega | exact bi_rng _) dX7_tell_42 ?_
              refine x_istore_n C dX7_tell_43 rfl (by rw [hn]; exact Nat.le_of_ble_eq_true rfl) ?_
              have h22 : M2 22 (20 * (g : Int) + i) = M1 22 ((20 * g + i : Nat) : Int) := by (have q := hT.2.2.2 ((20 * g + i : Nat) : Int); rw [if_neg (by omega)] at q; rw [← q]; congr 1)
              rw [h22]
              have b22 := hM1.b22 ((20 * g + i : Nat) : Int)
              have b23 := hM1.b23 (i : Int)
              refine x_aload_n C dX7_tell_44 rfl rfl ?_
              refine x_iload_n C dX7_tell_45 rfl rfl ?_
              refine x_iload_n C dX7_tell_46 rfl rfl ?_
              refine x_callV C hR cb_X7_isMember cv_X7_isMember u23_2 (k_X7_isMember hst hM2 (by omega) (by omega)) m_recv ⟨_, _, rfl⟩ rfl (Nat.le_of_ble_eq_true rfl) rfl dX7_tell_47 (by decide) (by decide) (fun E x9 h9 => absurd h9.1 (by intro h; cases h)) (fun r9 x9 h9 => ?_)
              obtain ⟨e9, rfl⟩ := h9
              cases e9
              have hbe : bi (memb M2 g i) = bi (memb M1 g i) := bi_congr (hT.sr.mem g i)
              rw [hbe]
              have hb01 := bi_01 (memb M1 g i)
              refine x_istore C dX7_tell_50 (by rw [hn]; exact Nat.le_of_ble_eq_true rfl) ?_
              refine x_iload C dX7_tell_52 rfl ?_
              refine x_iload_n C dX7_tell_54 rfl rfl ?_
              refine x_icmp_eq (tgt := 121) C dX7_tell_55 (by decide) (by first | omega | exact bi_rng _) (by first | omega | exact bi_rng _) (fun h55 => ?_) (fun h55 => ?_)
              ·
                have hcn : ¬ chg M1 (20 * g + i) := by (simp only [chg, hdiv (by omega), hmod (by omega)]; omega)
                refine x_iinc C dX7_tell_121 (by rw [hn]; exact Nat.le_of_ble_eq_true rfl) rfl ?_
                refine x_goto (tgt := 26) C dX7_tell_124 (by decide) ?_
                exact X.to (ih2 (i + 1) M2 (TI.no (i := 20 * g + i) hT hcn) (by omega) (by omega)) (lsc rfl (lsc rfl (lsc rfl lsn)))
              ·
                refine x_iload_n C dX7_tell_58 rfl rfl ?_
                refine x_if_ne (tgt := 71) C dX7_tell_59 (by decide) (by first | omega | exact bi_rng _) (fun h59 => ?_) (fun h59 => ?_)
                ·
                  have hcy : chg M1 (20 * g + i) := by (simp only [chg, hdiv (by omega), hmod (by omega)]; omega)
                  have h24 := hM2.told
                  have hlt := chgs_len M1 (20 * g + i)
                  have h24e := hT.2.1
                  refine x_aload_n C dX7_tell_71 rfl rfl ?_
                  refine m_get (f := 25) C (by decide) u2_20 rfl rfl dX7_tell_72 ?_
                  refine x_aload_n C dX7_tell_75 rfl rfl ?_
                  refine m_get (f := 24) C (by decide) u24_12 rfl rfl dX7_tell_76 ?_
                  refine x_bipush C dX7_tell_79 (by decide) ?_
                  refine x_iload_n C dX7_tell_81 rfl rfl ?_
                  refine x_imul C dX7_tell_82 ?_
                  refine x_iload_n C dX7_tell_83 rfl rfl ?_
                  refine x_iadd C dX7_tell_84 ?_
                  refine x_iload_n C dX7_tell_85 rfl rfl ?_
                  refine x_if_eq (tgt := 95) C dX7_tell_86 (by decide) (by first | omega | exact bi_rng _) (fun h86 => ?_) (fun h86 => ?_)
                  ·
                    refine x_iconst C dX7_tell_95 ?_
                    refine x_iadd C dX7_tell_96 ?_
                    refine m_iast (f := 25) (q0 := 21) (N := 160) C rfl (by decide) (by first | omega | exact bi_rng _) (wsM_st25 _ _ _ _ (by first | omega | exact bi_rng _) _) dX7_tell_97 ?_
                    refine x_aload_n C dX7_tell_98 rfl rfl ?_
                    refine x_dup C dX7_tell_99 (by first | rfl | exact vr_cat _ | exact vi_cat _) ?_
                    refine m_get (f := 24) C (by decide) u24_12 rfl rfl dX7_tell_100 ?_
                    change X φ _ _ _ _ _ (vi (M2 24 0) :: _)
                    refine x_iconst C dX7_tell_103 ?_
                    refine x_iadd C dX7_tell_104 ?_
                    change X φ _ _ _ _ _ (vi (M2 24 0 + 1) :: _)
                    refine m_put (f := 24) C (by decide) u24_12 rfl rfl (by decide +kernel) (wsM_put24 _ _ _ _ _) dX7_tell_105 ?_
                    refine x_aload_n C dX7_tell_108 rfl rfl ?_
                    refine m_get (f := 22) C (by decide) u2_18 rfl rfl dX7_tell_109 ?_
                    refine x_bipush C dX7_tell_112 (by decide) ?_
                    refine x_iload_n C dX7_tell_114 rfl rfl ?_
                    refine x_imul C dX7_tell_115 ?_
                    refine x_iload_n C dX7_tell_116 rfl rfl ?_
                    refine x_iadd C dX7_tell_117 ?_
                    refine x_iload C dX7_tell_118 rfl ?_
                    refine m_zast (f := 22) (q0 := 19) (N := 160) C rfl (by decide) (by first | omega | exact bi_rng _) (by first | omega | exact bi_rng _) (wsM_st22 _ _ _ _ (by first | omega | exact bi_rng _) _) dX7_tell_120 ?_
                    skip
                    refine x_iinc C dX7_tell_121 (by rw [hn]; exact Nat.le_of_ble_eq_true rfl) rfl ?_
                    refine x_goto (tgt := 26) C dX7_tell_124 (by decide) ?_
                    exact X.to (ih2 (i + 1) _ (by first | exact TI.yes (i := 20 * g + i) hM1 hT hcy (by simp only [chV, hdiv (by omega), hmod (by omega)]; split <;> omega) (by omega) (by omega)) (by omega) (by omega)) (lsc rfl (lsc rfl (lsc rfl lsn)))
                  ·
                    refine x_sipush C dX7_tell_89 (by decide) ?_
                    refine x_goto (tgt := 96) C dX7_tell_92 (by decide) ?_
                    refine x_iadd C dX7_tell_96 ?_
                    refine m_iast (f := 25) (q0 := 21) (N := 160) C rfl (by decide) (by first | omega | exact bi_rng _) (wsM_st25 _ _ _ _ (by first | omega | exact bi_rng _) _) dX7_tell_97 ?_
                    refine x_aload_n C dX7_tell_98 rfl rfl ?_
                    refine x_dup C dX7_tell_99 (by first | rfl | exact vr_cat _ | exact vi_cat _) ?_
                    refine m_get (f := 24) C (by decide) u24_12 rfl rfl dX7_tell_100 ?_
                    change X φ _ _ _ _ _ (vi (M2 24 0) :: _)
                    refine x_iconst C dX7_tell_103 ?_
                    refine x_iadd C dX7_tell_104 ?_
                    change X φ _ _ _ _ _ (vi (M2 24 0 + 1) :: _)
                    refine m_put (f := 24) C (by decide) u24_12 rfl rfl (by decide +kernel) (wsM_put24 _ _ _ _ _) dX7_tell_105 ?_
                    refine x_aload_n C dX7_tell_108 rfl rfl ?_
                    refine m_get (f := 22) C (by decide) u2_18 rfl rfl dX7_tell_109 ?_
                    refine x_bipush C dX7_tell_112 (by decide) ?_
                    refine x_iload_n C dX7_tell_114 rfl rfl ?_
                    refine x_imul C dX7_tell_115 ?_
                    refine x_iload_n C dX7_tell_116 rfl rfl ?_
                    refine x_iadd C dX7_tell_117 ?_
                    refine x_iload C dX7_tell_118 rfl ?_
                    refine m_zast (f := 22) (q0 := 19) (N := 160) C rfl (by decide) (by first | omega | exact bi_rng _) (by first | omega | exact bi_rng _) (wsM_st22 _ _ _ _ (by first | omega | exact bi_rng _) _) dX7_tell_120 ?_
                    skip
                    refine x_iinc C dX7_tell_121 (by rw [hn]; exact Nat.le_of_ble_eq_true rfl) rfl ?_
                    refine x_goto (tgt := 26) C dX7_tell_124 (by decide) ?_
                    exact X.to (ih2 (i + 1) _ (by first | exact TI.yes (i := 20 * g + i) hM1 hT hcy (by simp only [chV, hdiv (by omega), hmod (by omega)]; split <;> omega) (by omega) (by omega)) (by omega) (by omega)) (lsc rfl (lsc rfl (lsc rfl lsn)))
                ·
                  refine x_aload_n C dX7_tell_62 rfl rfl ?_
                  refine m_get (f := 23) C (by decide) u2_19 rfl rfl dX7_tell_63 ?_
                  refine x_iload_n C dX7_tell_66 rfl rfl ?_
                  refine m_zald (f := 23) (q0 := 20) (N := 20) C rfl (by decide) (by first | omega | exact bi_rng _) dX7_tell_67 ?_
                  rw [h323]
                  refine x_if_eq (tgt := 121) C dX7_tell_68 (by decide) (by first | omega | exact bi_rng _) (fun h68 => ?_) (fun h68 => ?_)
                  ·
                    have hcn : ¬ chg M1 (20 * g + i) := by (simp only [chg, hdiv (by omega), hmod (by omega)]; omega)
                    refine x_iinc C dX7_tell_121 (by rw [hn]; exact Nat.le_of_ble_eq_true rfl) rfl ?_
                    refine x_goto (tgt := 26) C dX7_tell_124 (by decide) ?_
                    exact X.to (ih2 (i + 1) M2 (TI.no (i := 20 * g + i) hT hcn) (by omega) (by omega)) (lsc rfl (lsc rfl (lsc rfl lsn)))
                  ·
                    have hcy : chg M1 (20 * g + i) := by (simp only [chg, hdiv (by omega), hmod (by omega)]; omega)
                    have h24 := hM2.told
                    have hlt := chgs_len M1 (20 * g + i)
                    have h24e := hT.2.1
                    refine x_aload_n C dX7_tell_71 rfl rfl ?_
                    refine m_get (f := 25) C (by decide) u2_20 rfl rfl dX7_tell_72 ?_
                    refine x_aload_n C dX7_tell_75 rfl rfl ?_
                    refine m_get (f := 24) C (by decide) u24_12 rfl rfl dX7_tell_76 ?_
                    refine x_bipush C dX7_tell_79 (by decide) ?_
                    refine x_iload_n C dX7_tell_81 rfl rfl ?_
                    refine x_imul C dX7_tell_82 ?_
                    refine x_iload_n C dX7_tell_83 rfl rfl ?_
                    refine x_iadd C dX7_tell_84 ?_
                    refine x_iload_n C dX7_tell_85 rfl rfl ?_
                    refine x_if_eq (tgt := 95) C dX7_tell_86 (by decide) (by first | omega | exact bi_rng _) (fun h86 => ?_) (fun h86 => ?_)
                    ·
                      refine x_iconst C dX7_tell_95 ?_
                      refine x_iadd C dX7_tell_96 ?_
                      refine m_iast (f := 25) (q0 := 21) (N := 160) C rfl (by decide) (by first | omega | exact bi_rng _) (wsM_st25 _ _ _ _ (by first | omega | exact bi_rng _) _) dX7_tell_97 ?_
                      refine x_aload_n C dX7_tell_98 rfl rfl ?_
                      refine x_dup C dX7_tell_99 (by first | rfl | exact vr_cat _ | exact vi_cat _) ?_
                      refine m_get (f := 24) C (by decide) u24_12 rfl rfl dX7_tell_100 ?_
                      change X φ _ _ _ _ _ (vi (M2 24 0) :: _)
                      refine x_iconst C dX7_tell_103 ?_
                      refine x_iadd C dX7_tell_104 ?_
                      change X φ _ _ _ _ _ (vi (M2 24 0 + 1) :: _)
                      refine m_put (f := 24) C (by decide) u24_12 rfl rfl (by decide +kernel) (wsM_put24 _ _ _ _ _) dX7_tell_105 ?_
                      refine x_aload_n C dX7_tell_108 rfl rfl ?_
                      refine m_get (f := 22) C (by decide) u2_18 rfl rfl dX7_tell_109 ?_
                      refine x_bipush C dX7_tell_112 (by decide) ?_
                      refine x_iload_n C dX7_tell_114 rfl rfl ?_
                      refine x_imul C dX7_tell_115 ?_
                      refine x_iload_n C dX7_tell_116 rfl rfl ?_
                      refine x_iadd C dX7_tell_117 ?_
                      refine x_iload C dX7_tell_118 rfl ?_
                      refine m_zast (f := 22) (q0 := 19) (N := 160) C rfl (by decide) (by first | omega | exact bi_rng _) (by first | omega | exact bi_rng _) (wsM_st22 _ _ _ _ (by first | omega | exact bi_rng _) _) dX7_tell_120 ?_
                      skip
                      refine x_iinc C dX7_tell_121 (by rw [hn]; exact Nat.le_of_ble_eq_true rfl) rfl ?_
                      refine x_goto (tgt := 26) C dX7_tell_124 (by decide) ?_
                      exact X.to (ih2 (i + 1) _ (by first | exact TI.yes (i := 20 * g + i) hM1 hT hcy (by simp only [chV, hdiv (by omega), hmod (by omega)]; split <;> omega) (by omega) (by omega)) (by omega) (by omega)) (lsc rfl (lsc rfl (lsc rfl lsn)))
                    ·
                      refine x_sipush C dX7_tell_89 (by decide) ?_
                      refine x_goto (tgt := 96) C dX7_tell_92 (by decide) ?_
                      refine x_iadd C dX7_tell_96 ?_
                      refine m_iast (f := 25) (q0 := 21) (N := 160) C rfl (by decide) (by first | omega | exact bi_rng _) (wsM_st25 _ _ _ _ (by first | omega | exact bi_rng _) _) dX7_tell_97 ?_
                      refine x_aload_n C dX7_tell_98 rfl rfl ?_
                      refine x_dup C dX7_tell_99 (by first | rfl | exact vr_cat _ | exact vi_cat _) ?_
                      refine m_get (f := 24) C (by decide) u24_12 rfl rfl dX7_tell_100 ?_
                      change X φ _ _ _ _ _ (vi (M2 24 0) :: _)
                      refine x_iconst C dX7_tell_103 ?_
                      refine x_iadd C dX7_tell_104 ?_
                      change X φ _ _ _ _ _ (vi (M2 24 0 + 1) :: _)
                      refine m_put (f := 24) C (by decide) u24_12 rfl rfl (by decide +kernel) (wsM_put24 _ _ _ _ _) dX7_tell_105 ?_
                      refine x_aload_n C dX7_tell_108 rfl rfl ?_
                      refine m_get (f := 22) C (by decide) u2_18 rfl rfl dX7_tell_109 ?_
                      refine x_bipush C dX7_tell_112 (by decide) ?_
                      refine x_iload_n C dX7_tell_114 rfl rfl ?_
                      refine x_imul C dX7_tell_115 ?_
                      refine x_iload_n C dX7_tell_116 rfl rfl ?_
                      refine x_iadd C dX7_tell_117 ?_
                      refine x_iload C dX7_tell_118 rfl ?_
                      refine m_zast (f := 22) (q0 := 19) (N := 160) C rfl (by decide) (by first | omega | exact bi_rng _) (by first | omega | exact bi_rng _) (wsM_st22 _ _ _ _ (by first | omega | exact bi_rng _) _) dX7_tell_120 ?_
                      skip
                      refine x_iinc C dX7_tell_121 (by rw [hn]; exact Nat.le_of_ble_eq_true rfl) rfl ?_
                      refine x_goto (tgt := 26) C dX7_tell_124 (by decide) ?_
                      exact X.to (ih2 (i + 1) _ (by first | exact TI.yes (i := 20 * g + i) hM1 hT hcy (by simp only [chV, hdiv (by omega), hmod (by omega)]; split <;> omega) (by omega) (by omega)) (by omega) (by omega)) (lsc rfl (lsc rfl (lsc rfl lsn)))
        exact X.to (inner 21 0 M2 hT (by omega) (by omega)) (lsc rfl (lsc rfl (lsc rfl lsn)))
  exact X.to (loop (G + 1) 0 (mset M1 24 0 0) ⟨fun k h1 h2 h3 => mset_row h2 _ _ _, mset_eq _ _ _ _, fun j hj => absurd hj (Nat.not_lt_zero j), fun j => by rw [if_neg (by omega), mset_ne (by decide)]⟩ (by omega) (by omega)) (lsc rfl (lsc rfl (lsn)))

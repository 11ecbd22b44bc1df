/-! The law's look at consent -/
set_option maxRecDepth 100000 in
set_option maxHeartbeats 400000 in
theorem k_L_counts {l : Launch} {D : va_G} {cy : CY} (hst : l.stackTraces = false) {ba : Nat → Nat} {h : HS} {V M : MS} (hL : LR V M) (hM : MI M) (hN : M 2 0 ≤ 50) {k : Int} (hk : 0 ≤ k ∧ k < M 2 0) (h9 : M 9 k = 0) : Ct l D cy yL_counts (Cond.code yL_counts cL_counts 10 (some .boolean)) 2 45 0 0 (LA cy ba) [vr (some (ba 0)), vr (some (ba 1)), vr (some (ba 3)), vr (some (ba 4)), vi k] (h, V) (fun r q' => r = .ok (some (vi (bi (cnt M k 0)))) ∧ q' = (h, V)) := by
  refine Ct.of1 (own := RL) hst (by decide) rfl (Nat.le_of_ble_eq_true rfl) (cat1 (vr_cat _) (cat1 (vr_cat _) (cat1 (vr_cat _) (cat1 (vr_cat _) (cat1 (vi_cat _) (cat0)))))) ?_
  intro φ C hQ hn hR hl hD
  subst hl hD
  obtain ⟨⟨b4, b5, b6, b7, b8⟩, -⟩ := hL.live hk h9
  have hRR : ∃ RR, RR = rowOf M k 0 := ⟨_, rfl⟩
  obtain ⟨RR, hRR⟩ := hRR
  have hrr := rowOf_in hM hk.1 hk.2 (p := 0) (by decide)
  rw [← hRR] at hrr
  have ht := tmOf_in hM hk.1 hk.2
  have h14 := hM.ch RR hrr.1 hrr.2
  have K : ∀ nd : Int, (0 ≤ nd ∧ nd < 6) → 4 * nn nd = RR → X φ (LA cy ba (h, V)) 0 0 29 [(0, vr (some (ba 0))), (1, vr (some (ba 1))), (2, vr (some (ba 3))), (3, vr (some (ba 4))), (4, vi k)] [vi nd] := by
    intro nd hnd hrow
    obtain ⟨m1, m2, m3⟩ := hL.2.2 nd hnd.1 hnd.2
    rw [hrow] at m1 m3
    have hfin : ∀ i : Nat, (i : Int) = V 4 nd → bi (cnt M k 0) = bi (chG M RR (tmOf M k) i = 1) := by
      intro i hi
      show bi (chG M (rowOf M k 0) (tmOf M k) (M 14 (rowOf M k 0)).toNat = 1) = _
      rw [← hRR, show (M 14 RR).toNat = i by omega]
    have loop : ∀ (f i : Nat), (i : Int) ≤ V 4 nd → V 4 nd - i < f → X φ (LA cy ba (h, V)) 0 0 40 [(0, vr (some (ba 0))), (1, vr (some (ba 1))), (2, vr (some (ba 3))), (3, vr (some (ba 4))), (4, vi k), (5, vi nd), (6, vi (chB M RR (tmOf M k) i)), (7, vi (chG M RR (tmOf M k) i)), (8, vi (i : Int))] [] := by
      intro f
      induction f with
      | zero => intro i h1 h2; omega
      | succ f ih =>
        intro i h1 h2
        have hG := chG_in hM RR (tmOf M k) i
        refine x_iload C dL_counts_40 rfl ?_
        refine x_aload_n C dL_counts_42 rfl rfl ?_
        refine x_iload C dL_counts_43 rfl ?_
        refine a_iald (f := 4) (N := 6) C rfl (by decide) (by first | omega | exact bi_rng _) dL_counts_45 ?_
        refine x_icmp_ge (tgt := 109) C dL_counts_46 (by decide) (by first | omega | exact bi_rng _) (by first | omega | exact bi_rng _) (fun h46 => ?_) (fun h46 => ?_)
        ·
          refine x_iload C dL_counts_109 rfl ?_
          refine x_iconst C dL_counts_111 ?_
          refine x_icmp_ne (tgt := 119) C dL_counts_112 (by decide) (by first | omega | exact bi_rng _) (by first | omega | exact bi_rng _) (fun h112 => ?_) (fun h112 => ?_)
          ·
            refine x_iconst C dL_counts_119 ?_
            refine x_iret (ty := .boolean) C hQ dL_counts_120 rfl (by decide) (by decide) (by decide) ?_
            exact ⟨rv (by rw [hfin i (by omega)]; simp only [bi]; split <;> omega), rfl⟩
          ·
            refine x_iconst C dL_counts_115 ?_
            refine x_goto (tgt := 120) C dL_counts_116 (by decide) ?_
            refine x_iret (ty := .boolean) C hQ dL_counts_120 rfl (by decide) (by decide) (by decide) ?_
            exact ⟨rv (by rw [hfin i (by omega)]; simp only [bi]; split <;> omega), rfl⟩
        ·
          have hcv := m3 i (by omega) (by omega)
          have hx := hM.cf RR i (by omega) (by omega) (by omega) (by omega)
          have hg := hM.b16 (20 * RR + i)
          have hB := chB_in hM RR (tmOf M k) (by omega) (by omega) i (by omega)
          refine x_aload_n C dL_counts_49 rfl rfl ?_
          refine x_bipush C dL_counts_50 (by decide) ?_
          refine x_iload C dL_counts_52 rfl ?_
          refine x_imul C dL_counts_54 ?_
          refine x_iload C dL_counts_55 rfl ?_
          refine x_iadd C dL_counts_57 ?_
          refine a_iald (f := 3) (N := 36) C rfl (by decide) (by first | omega | exact bi_rng _) dL_counts_58 ?_
          rw [hcv]
          refine x_iconst C dL_counts_59 ?_
          refine x_idiv C dL_counts_60 (by first | omega | exact bi_rng _) (by first | omega | exact bi_rng _) ?_
          rw [td2 hx.1 hg]
          refine x_istore C dL_counts_61 (by rw [hn]; exact Nat.le_of_ble_eq_true rfl) ?_
          refine x_iload C dL_counts_63 rfl ?_
          refine x_aload_n C dL_counts_65 rfl rfl ?_
          refine x_aload_n C dL_counts_66 rfl rfl ?_
          refine x_iload C dL_counts_67 rfl ?_
          refine x_callS C hR cb_L_time u12_10 u12_9 (k_L_time hst hL hM hN hk h9) rfl (Nat.le_of_ble_eq_true rfl) rfl dL_counts_69 (by decide) (by decide) (fun E x9 h9 => absurd h9.1 (by intro h; cases h)) (fun r9 x9 h9 => ?_)
          obtain ⟨e9, rfl⟩ := h9
          cases e9
          refine x_icmp_gt (tgt := 103) C dL_counts_72 (by decide) (by first | omega | exact bi_rng _) (by first | omega | exact bi_rng _) (fun h72 => ?_) (fun h72 => ?_)
          ·
            refine x_iinc C dL_counts_103 (by rw [hn]; exact Nat.le_of_ble_eq_true rfl) rfl ?_
            refine x_goto (tgt := 40) C dL_counts_106 (by decide) ?_
            exact X.to (ih (i + 1) (by omega) (by omega)) (lsc rfl (lsc rfl (lsc rfl (lsc rfl (lsc rfl (lsc rfl (lsc (lkv (by simp only [chB]; split <;> omega)) (lsc (lkv (by simp only [chG]; split <;> omega)) (lsc (lkv (by omega)) (lsn))))))))))
          ·
            refine x_iload C dL_counts_75 rfl ?_
            refine x_iload C dL_counts_77 rfl ?_
            refine x_icmp_ge (tgt := 85) C dL_counts_79 (by decide) (by first | omega | exact bi_rng _) (by first | omega | exact bi_rng _) (fun h79 => ?_) (fun h79 => ?_)
            ·
              refine x_iload C dL_counts_85 rfl ?_
              refine x_istore C dL_counts_87 (by rw [hn]; exact Nat.le_of_ble_eq_true rfl) ?_
              refine x_aload_n C dL_counts_89 rfl rfl ?_
              refine x_bipush C dL_counts_90 (by decide) ?_
              refine x_iload C dL_counts_92 rfl ?_
              refine x_imul C dL_counts_94 ?_
              refine x_iload C dL_counts_95 rfl ?_
              refine x_iadd C dL_counts_97 ?_
              refine a_iald (f := 3) (N := 36) C rfl (by decide) (by first | omega | exact bi_rng _) dL_counts_98 ?_
              rw [hcv]
              refine x_iconst C dL_counts_99 ?_
              refine x_irem C dL_counts_100 (by first | omega | exact bi_rng _) (by first | omega | exact bi_rng _) ?_
              rw [show (2 * M 15 (20 * RR + i) + M 16 (20 * RR + i)) % 2 = M 16 (20 * RR + i) by omega]
              refine x_istore C dL_counts_101 (by rw [hn]; exact Nat.le_of_ble_eq_true rfl) ?_
              refine x_iinc C dL_counts_103 (by rw [hn]; exact Nat.le_of_ble_eq_true rfl) rfl ?_
              refine x_goto (tgt := 40) C dL_counts_106 (by decide) ?_
              exact X.to (ih (i + 1) (by omega) (by omega)) (lsc rfl (lsc rfl (lsc rfl (lsc rfl (lsc rfl (lsc rfl (lsc (lkv (by simp only [chB]; split <;> omega)) (lsc (lkv (by simp only [chG]; split <;> omega)) (lsc (lkv (by omega)) (lsn))))))))))
            ·
              refine x_goto (tgt := 103) C dL_counts_82 (by decide) ?_
              refine x_iinc C dL_counts_103 (by rw [hn]; exact Nat.le_of_ble_eq_true rfl) rfl ?_
              refine x_goto (tgt := 40) C dL_counts_106 (by decide) ?_
              exact X.to (ih (i + 1) (by omega) (by omega)) (lsc rfl (lsc rfl (lsc rfl (lsc rfl (lsc rfl (lsc rfl (lsc (lkv (by simp only [chB]; split <;> omega)) (lsc (lkv (by simp only [chG]; split <;> omega)) (lsc (lkv (by omega)) (lsn))))))))))
    refine x_istore C dL_counts_29 (by rw [hn]; exact Nat.le_of_ble_eq_true rfl) ?_
    refine x_iconst C dL_counts_31 ?_
    refine x_istore C dL_counts_32 (by rw [hn]; exact Nat.le_of_ble_eq_true rfl) ?_
    refine x_iconst C dL_counts_34 ?_
    refine x_istore C dL_counts_35 (by rw [hn]; exact Nat.le_of_ble_eq_true rfl) ?_
    refine x_iconst C dL_counts_37 ?_
    refine x_istore C dL_counts_38 (by rw [hn]; exact Nat.le_of_ble_eq_true rfl) ?_
    exact X.to (loop ((V 4 nd).toNat + 1) 0 (by omega) (by omega)) (lsc rfl (lsc rfl (lsc rfl (lsc rfl (lsc rfl (lsc rfl (lsc rfl (lsc rfl (lsc rfl (lsn))))))))))
  refine x_aload_n C dL_counts_0 rfl rfl ?_
  refine x_iload C dL_counts_1 rfl ?_
  refine x_iconst C dL_counts_3 ?_
  refine x_callS C hR cb_L_part u3_21 u3_20 (kp1 hst hL hN (by omega) (by omega)) rfl (Nat.le_of_ble_eq_true rfl) rfl dL_counts_4 (by decide) (by decide) (fun E x9 h9 => absurd h9.1 (by intro h; cases h)) (fun r9 x9 h9 => ?_)
  obtain ⟨e9, rfl⟩ := h9
  cases e9
  refine x_if_lt (tgt := 20) C dL_counts_7 (by decide) (by first | omega | exact bi_rng _) (fun h7 => ?_) (fun h7 => ?_)
  ·
    refine x_iconst C dL_counts_20 ?_
    refine x_aload_n C dL_counts_21 rfl rfl ?_
    refine x_iload C dL_counts_22 rfl ?_
    refine x_iconst C dL_counts_24 ?_
    refine x_callS C hR cb_L_part u3_21 u3_20 (kp0 hst hL hN (by omega) (by omega)) rfl (Nat.le_of_ble_eq_true rfl) rfl dL_counts_25 (by decide) (by decide) (fun E x9 h9 => absurd h9.1 (by intro h; cases h)) (fun r9 x9 h9 => ?_)
    obtain ⟨e9, rfl⟩ := h9
    cases e9
    refine x_iadd C dL_counts_28 ?_
    exact X.to (K _ (by omega) (by rw [hRR]; unfold rowOf nn; repeat (first | rw [if_pos (by omega)] | rw [if_neg (by omega)]); omega)) (lsc rfl (lsc rfl (lsc rfl (lsc rfl (lsc rfl lsn)))))
  ·
    refine x_aload_n C dL_counts_10 rfl rfl ?_
    refine x_iload C dL_counts_11 rfl ?_
    refine x_iconst C dL_counts_13 ?_
    refine x_callS C hR cb_L_part u3_21 u3_20 (kp1 hst hL hN (by omega) (by omega)) rfl (Nat.le_of_ble_eq_true rfl) rfl dL_counts_14 (by decide) (by decide) (fun E x9 h9 => absurd h9.1 (by intro h; cases h)) (fun r9 x9 h9 => ?_)
    obtain ⟨e9, rfl⟩ := h9
    cases e9
    refine x_goto (tgt := 29) C dL_counts_17 (by decide) ?_
    exact X.to (K _ (by omega) (by rw [hRR]; unfold rowOf nn; repeat (first | rw [if_pos (by omega)] | rw [if_neg (by omega)]); omega)) (lsc rfl (lsc rfl (lsc rfl (lsc rfl (lsc rfl lsn)))))

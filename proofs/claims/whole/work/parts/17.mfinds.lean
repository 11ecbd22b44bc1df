/-! finds: lower numbers spread along links -/
theorem mset_row {k k' : Nat} (h : k' ≠ k) (M : MS) (j z : Int) : mset M k j z k' = M k' := by
  funext i
  exact mset_ne h M j z i
def FA (M M1 : MS) : Prop := (∀ k, k ≠ 27 → M1 k = M k) ∧ ∀ a, 0 ≤ a → a < 20 → (0 ≤ M1 27 a ∧ M1 27 a ≤ a) ∧ Conn M a (M1 27 a)
theorem FA.mi {M M1 : MS} (hM : MI M) (h : FA M M1) : MI M1 := hM.same h.1 (fun k h0 h1 => by
  have := (h.2 k h0 h1).1
  omega)
theorem FA.step {M M1 : MS} (hM : MI M) (hA : FA M M1) {e its : Int} (he : 0 ≤ e ∧ e < M 2 0) (hl : lnk M e) (hne : ¬ M1 27 (10 + M 4 e) = M1 27 (M 5 e)) (h1 : its ≤ M1 27 (10 + M 4 e)) (h2 : its ≤ M1 27 (M 5 e)) (h3 : its = M1 27 (10 + M 4 e) ∨ its = M1 27 (M 5 e)) :
    FA M (mset (mset M1 27 (10 + M 4 e) its) 27 (M 5 e) its) ∧ sum20 (mset (mset M1 27 (10 + M 4 e) its) 27 (M 5 e) its 27) 20 < sum20 (M1 27) 20 := by
  obtain ⟨-, ⟨d0, d1⟩, ⟨a0, a1⟩, -⟩ := hM.ev e he.1 he.2
  have a2 : 0 ≤ M 5 e := by have := hl.2.1; omega
  obtain ⟨⟨u0, u1⟩, uc⟩ := hA.2 (10 + M 4 e) (by omega) (by omega)
  obtain ⟨⟨v0, v1⟩, vc⟩ := hA.2 (M 5 e) (by omega) (by omega)
  have hed : Conn M (10 + M 4 e) (M 5 e) := Conn.ed ⟨e, he, hl, rfl, rfl⟩
  have hc1 : Conn M (10 + M 4 e) its := by
    rcases h3 with h | h
    · rw [h]; exact uc
    · rw [h]; exact hed.tr vc
  have hc2 : Conn M (M 5 e) its := hed.sy.tr hc1
  have hat : ∀ a, mset (mset M1 27 (10 + M 4 e) its) 27 (M 5 e) its 27 a = if a = M 5 e then its else if a = 10 + M 4 e then its else M1 27 a := fun a => by
    rw [mset_at, mset_at]
  refine ⟨⟨fun k hk => by rw [mset_row hk, mset_row hk]; exact hA.1 k hk, fun a ha0 ha1 => ?_⟩, sum20_lt 20 (fun i hi => ?_) ?_⟩
  · rw [hat]
    obtain ⟨⟨w0, w1⟩, wc⟩ := hA.2 a ha0 ha1
    by_cases e1 : a = M 5 e
    · rw [if_pos e1]
      exact ⟨by omega, by rw [e1]; exact hc2⟩
    · rw [if_neg e1]
      by_cases e2 : a = 10 + M 4 e
      · rw [if_pos e2]
        exact ⟨by omega, by rw [e2]; exact hc1⟩
      · rw [if_neg e2]
        exact ⟨⟨w0, w1⟩, wc⟩
  · rw [hat]
    by_cases e1 : (i : Int) = M 5 e
    · rw [if_pos e1, e1]; exact h2
    · rw [if_neg e1]
      by_cases e2 : (i : Int) = 10 + M 4 e
      · rw [if_pos e2, e2]; exact h1
      · rw [if_neg e2]; exact Int.le_refl _
  · rcases h3 with h | h
    · refine ⟨(M 5 e).toNat, by omega, ?_⟩
      rw [hat, Int.toNat_of_nonneg a2, if_pos rfl]
      omega
    · refine ⟨(10 + M 4 e).toNat, by omega, ?_⟩
      rw [hat, Int.toNat_of_nonneg (by omega), if_pos rfl]
      by_cases e1 : 10 + M 4 e = M 5 e
      · exact absurd (by rw [e1]) hne
      · rw [if_neg e1]
        omega
theorem FA.sumnn {M M1 : MS} (h : FA M M1) : 0 ≤ sum20 (M1 27) 20 := sum20_nn 20 (fun i hi => (h.2 i (by omega) (by omega)).1.1)
theorem ob_true (P : Prop) (h : P) : P := h

set_option maxRecDepth 100000 in
set_option maxHeartbeats 4000000 in
theorem k_X7_finds {l : Launch} {D : va_G} {cy : CY} (hst : l.stackTraces = false) {b : Nat → Nat} {t : Int} {M : MS}  (hM : MI M) : Ct l D cy yX7_finds (Cond.code yX7_finds cX7_finds 6 none) 1 21 0 0 (IM cy b) [vr (some (b 0))] (t, M) (fun r q' => r = .ok none ∧ (∃ M1, (∀ k, k ≠ 27 → M1 k = M k) ∧ IsLow M (M1 27) ∧ q' = (t, M1))) := by
  refine Ct.of1 (own := RX7) hst (by decide) rfl (Nat.le_of_ble_eq_true rfl) (cat1 (vr_cat _) (cat0)) ?_
  intro φ C hQ hn hR hl hD
  subst hl hD
  have hN := hM.n
  obtain ⟨N, hNe⟩ : ∃ N : Nat, (N : Int) = M 2 0 := ⟨(M 2 0).toNat, Int.toNat_of_nonneg hN.1⟩
  have loop2 : ∀ (f : Nat) (M1 : MS) (w : Int), FA M M1 → (w = 0 ∨ w = 1) → (w = 1 ∨ (w = 0 ∧ ∀ x y, edge M x y → M1 27 x = M1 27 y)) → (2 * sum20 (M1 27) 20 + w).toNat < f → X φ (IM cy b (t, M1)) 0 0 23 [(0, vr (some (b 0))), (1, vi w)] [] := by
    intro f
    induction f with
    | zero => intro M1 w _ _ _ h; omega
    | succ f ih =>
      intro M0 w0 hA0 hw0 hi0 hf0
      refine x_iload_n C dX7_finds_23 rfl rfl ?_
      refine x_if_eq (tgt := 143) C dX7_finds_24 (by decide) (by first | omega | exact bi_rng _) (fun h24 => ?_) (fun h24 => ?_)
      ·
        refine x_vret C hQ dX7_finds_143 rfl (by decide) (by decide) ?_
        refine ⟨rfl, M0, hA0.1, ⟨fun a h0 h1 => ?_, ?_⟩, rfl⟩
        · exact hA0.2 a h0 h1
        · rcases hi0 with q | q
          · omega
          · exact q.2
      ·
        refine x_iconst C dX7_finds_27 ?_
        refine x_istore_n C dX7_finds_28 rfl (by rw [hn]; exact Nat.le_of_ble_eq_true rfl) ?_
        refine x_iconst C dX7_finds_29 ?_
        refine x_istore_n C dX7_finds_30 rfl (by rw [hn]; exact Nat.le_of_ble_eq_true rfl) ?_
        have loop3 : ∀ (f3 i : Nat) (M1 : MS) (w : Int), FA M M1 → i ≤ N → N - i < f3 → (w = 0 ∨ w = 1) → ((w = 0 ∧ sum20 (M1 27) 20 = sum20 (M0 27) 20 ∧ ∀ e : Int, 0 ≤ e → e < i → lnk M e → M1 27 (10 + M 4 e) = M1 27 (M 5 e)) ∨ (w = 1 ∧ sum20 (M1 27) 20 < sum20 (M0 27) 20)) → X φ (IM cy b (t, M1)) 0 0 31 [(0, vr (some (b 0))), (1, vi w), (2, vi (i : Int))] [] := by
          intro f3
          induction f3 with
          | zero => intro i M1 w _ h1 h2; omega
          | succ f3 ih3 =>
            intro i M1 w hA1 h1 h2 hw hinv
            have hM1 := hA1.mi hM
            have hn1 : M1 2 0 = M 2 0 := by rw [hA1.1 2 (by decide)]
            have h4 : M1 4 = M 4 := hA1.1 4 (by decide)
            have h5 : M1 5 = M 5 := hA1.1 5 (by decide)
            have e4x : (i : Int) < M 2 0 → 0 ≤ M1 4 i := fun h => by rw [h4]; exact (hM.ev i (by omega) h).2.1.1
            refine x_iload_n C dX7_finds_31 rfl rfl ?_
            refine x_aload_n C dX7_finds_32 rfl rfl ?_
            refine m_get (f := 2) C (by decide) u7_9 rfl rfl dX7_finds_33 ?_
            refine x_icmp_ge (tgt := 140) C dX7_finds_36 (by decide) (by first | omega | exact bi_rng _) (by first | omega | exact bi_rng _) (fun h36 => ?_) (fun h36 => ?_)
            ·
              refine x_goto (tgt := 23) C dX7_finds_140 (by decide) ?_
              exact X.to (ih (M1) w hA1 hw (by rcases hinv with ⟨q1, q2, q3⟩ | ⟨q1, q2⟩; exact Or.inr ⟨q1, fun x y he => by (obtain ⟨e, g1, g2, rfl, rfl⟩ := he; exact q3 e g1.1 (by omega) g2)⟩; exact Or.inl q1) (by rcases hinv with ⟨q1, q2, q3⟩ | ⟨q1, q2⟩ <;> (have := hA1.sumnn; omega))) (lsc rfl (lsc rfl lsn))
            ·
              obtain ⟨⟨e3a, e3b⟩, ⟨e4a, e4b⟩, ⟨e5a, e5b⟩, -⟩ := hM.ev i (by omega) (by omega)
              have hlk : lnk M1 i ↔ lnk M i := by (unfold lnk; rw [hA1.1 9 (by decide), h5, hA1.1 12 (by decide), hA1.1 13 (by decide), h4])
              refine x_bipush C dX7_finds_39 (by decide) ?_
              refine x_aload_n C dX7_finds_41 rfl rfl ?_
              refine m_get (f := 4) C (by decide) u2_1 rfl rfl dX7_finds_42 ?_
              refine x_iload_n C dX7_finds_45 rfl rfl ?_
              refine m_iald (f := 4) (q0 := 2) (N := 200) C rfl (by decide) (by first | omega | exact bi_rng _) dX7_finds_46 ?_
              refine x_iadd C dX7_finds_47 ?_
              rw [h4]
              refine x_istore_n C dX7_finds_48 rfl (by rw [hn]; exact Nat.le_of_ble_eq_true rfl) ?_
              refine x_aload_n C dX7_finds_49 rfl rfl ?_
              refine m_get (f := 5) C (by decide) u2_2 rfl rfl dX7_finds_50 ?_
              refine x_iload_n C dX7_finds_53 rfl rfl ?_
              refine m_iald (f := 5) (q0 := 3) (N := 200) C rfl (by decide) (by first | omega | exact bi_rng _) dX7_finds_54 ?_
              rw [h5]
              refine x_istore C dX7_finds_55 (by rw [hn]; exact Nat.le_of_ble_eq_true rfl) ?_
              refine x_aload_n C dX7_finds_57 rfl rfl ?_
              refine x_iload_n C dX7_finds_58 rfl rfl ?_
              refine x_callV C hR cb_X7_links cv_X7_links u14_15 (k_X7_links hst hM1 (by omega)) m_recv ⟨_, _, rfl⟩ rfl (Nat.le_of_ble_eq_true rfl) rfl dX7_finds_59 (by decide) (by decide) (fun E x9 h9 => absurd h9.1 (by intro h; cases h)) (fun r9 x9 h9 => ?_)
              obtain ⟨e9, rfl⟩ := h9
              cases e9
              refine x_if_eq (tgt := 134) C dX7_finds_62 (by decide) (by first | omega | exact bi_rng _) (fun h62 => ?_) (fun h62 => ?_)
              ·
                refine x_iinc C dX7_finds_134 (by rw [hn]; exact Nat.le_of_ble_eq_true rfl) rfl ?_
                refine x_goto (tgt := 31) C dX7_finds_137 (by decide) ?_
                exact X.to (ih3 (i + 1) M1 w hA1 (by omega) (by omega) hw (by rcases hinv with ⟨q1, q2, q3⟩ | q1; exact Or.inl ⟨q1, q2, fun e g0 g1 gl => by (by_cases ge : e = i; (subst ge; exact absurd gl (fun gl => (bi_eq0.mp h62) (hlk.mpr gl))); exact q3 e g0 (by omega) gl)⟩; exact Or.inr q1)) (lsc rfl (lsc rfl (lsc rfl (lsn))))
              ·
                replace h62 := bi_ne0.mp h62
                have a2 : 0 ≤ M 5 i := by (have := (hlk.mp h62).2.1; omega)
                have z1 := (hA1.2 (10 + M 4 i) (by omega) (by omega)).1
                have z2 := (hA1.2 (M 5 i) (by omega) (by omega)).1
                refine x_aload_n C dX7_finds_65 rfl rfl ?_
                refine m_get (f := 27) C (by decide) u2_21 rfl rfl dX7_finds_66 ?_
                refine x_iload_n C dX7_finds_69 rfl rfl ?_
                refine m_iald (f := 27) (q0 := 22) (N := 20) C rfl (by decide) (by first | omega | exact bi_rng _) dX7_finds_70 ?_
                refine x_aload_n C dX7_finds_71 rfl rfl ?_
                refine m_get (f := 27) C (by decide) u2_21 rfl rfl dX7_finds_72 ?_
                refine x_iload C dX7_finds_75 rfl ?_
                refine m_iald (f := 27) (q0 := 22) (N := 20) C rfl (by decide) (by first | omega | exact bi_rng _) dX7_finds_77 ?_
                refine x_icmp_eq (tgt := 134) C dX7_finds_78 (by decide) (by first | omega | exact bi_rng _) (by first | omega | exact bi_rng _) (fun h78 => ?_) (fun h78 => ?_)
                ·
                  refine x_iinc C dX7_finds_134 (by rw [hn]; exact Nat.le_of_ble_eq_true rfl) rfl ?_
                  refine x_goto (tgt := 31) C dX7_finds_137 (by decide) ?_
                  exact X.to (ih3 (i + 1) M1 w hA1 (by omega) (by omega) hw (by rcases hinv with ⟨q1, q2, q3⟩ | q1; exact Or.inl ⟨q1, q2, fun e g0 g1 gl => by (by_cases ge : e = i; (subst ge; exact h78); exact q3 e g0 (by omega) gl)⟩; exact Or.inr q1)) (lsc rfl (lsc rfl (lsc rfl (lsn))))
                ·
                  refine x_aload_n C dX7_finds_81 rfl rfl ?_
                  refine m_get (f := 27) C (by decide) u2_21 rfl rfl dX7_finds_82 ?_
                  refine x_iload_n C dX7_finds_85 rfl rfl ?_
                  refine m_iald (f := 27) (q0 := 22) (N := 20) C rfl (by decide) (by first | omega | exact bi_rng _) dX7_finds_86 ?_
                  refine x_aload_n C dX7_finds_87 rfl rfl ?_
                  refine m_get (f := 27) C (by decide) u2_21 rfl rfl dX7_finds_88 ?_
                  refine x_iload C dX7_finds_91 rfl ?_
                  refine m_iald (f := 27) (q0 := 22) (N := 20) C rfl (by decide) (by first | omega | exact bi_rng _) dX7_finds_93 ?_
                  refine x_icmp_ge (tgt := 106) C dX7_finds_94 (by decide) (by first | omega | exact bi_rng _) (by first | omega | exact bi_rng _) (fun h94 => ?_) (fun h94 => ?_)
                  ·
                    refine x_aload_n C dX7_finds_106 rfl rfl ?_
                    refine m_get (f := 27) C (by decide) u2_21 rfl rfl dX7_finds_107 ?_
                    refine x_iload C dX7_finds_110 rfl ?_
                    refine m_iald (f := 27) (q0 := 22) (N := 20) C rfl (by decide) (by first | omega | exact bi_rng _) dX7_finds_112 ?_
                    refine x_istore C dX7_finds_113 (by rw [hn]; exact Nat.le_of_ble_eq_true rfl) ?_
                    refine x_aload_n C dX7_finds_115 rfl rfl ?_
                    refine m_get (f := 27) C (by decide) u2_21 rfl rfl dX7_finds_116 ?_
                    refine x_iload_n C dX7_finds_119 rfl rfl ?_
                    refine x_iload C dX7_finds_120 rfl ?_
                    refine m_iast (f := 27) (q0 := 22) (N := 20) C rfl (by decide) (by first | omega | exact bi_rng _) (wsM_st27 _ _ _ _ (by first | omega | exact bi_rng _) _) dX7_finds_122 ?_
                    refine x_aload_n C dX7_finds_123 rfl rfl ?_
                    refine m_get (f := 27) C (by decide) u2_21 rfl rfl dX7_finds_124 ?_
                    refine x_iload C dX7_finds_127 rfl ?_
                    refine x_iload C dX7_finds_129 rfl ?_
                    refine m_iast (f := 27) (q0 := 22) (N := 20) C rfl (by decide) (by first | omega | exact bi_rng _) (wsM_st27 _ _ _ _ (by first | omega | exact bi_rng _) _) dX7_finds_131 ?_
                    refine x_iconst C dX7_finds_132 ?_
                    refine x_istore_n C dX7_finds_133 rfl (by rw [hn]; exact Nat.le_of_ble_eq_true rfl) ?_
                    refine x_iinc C dX7_finds_134 (by rw [hn]; exact Nat.le_of_ble_eq_true rfl) rfl ?_
                    refine x_goto (tgt := 31) C dX7_finds_137 (by decide) ?_
                    have hst9 := FA.step hM hA1 (e := i) (its := M1 27 (M 5 i)) (by omega) (hlk.mp h62) h78 (by omega) (by omega) (by omega)
                    exact X.to (ih3 (i + 1) _ 1 hst9.1 (by omega) (by omega) (Or.inr rfl) (Or.inr ⟨rfl, by rcases hinv with ⟨q1, q2, q3⟩ | ⟨q1, q2⟩ <;> omega⟩)) (lsc rfl (lsc rfl (lsc rfl (lsn))))
                  ·
                    refine x_aload_n C dX7_finds_97 rfl rfl ?_
                    refine m_get (f := 27) C (by decide) u2_21 rfl rfl dX7_finds_98 ?_
                    refine x_iload_n C dX7_finds_101 rfl rfl ?_
                    refine m_iald (f := 27) (q0 := 22) (N := 20) C rfl (by decide) (by first | omega | exact bi_rng _) dX7_finds_102 ?_
                    refine x_goto (tgt := 113) C dX7_finds_103 (by decide) ?_
                    refine x_istore C dX7_finds_113 (by rw [hn]; exact Nat.le_of_ble_eq_true rfl) ?_
                    refine x_aload_n C dX7_finds_115 rfl rfl ?_
                    refine m_get (f := 27) C (by decide) u2_21 rfl rfl dX7_finds_116 ?_
                    refine x_iload_n C dX7_finds_119 rfl rfl ?_
                    refine x_iload C dX7_finds_120 rfl ?_
                    refine m_iast (f := 27) (q0 := 22) (N := 20) C rfl (by decide) (by first | omega | exact bi_rng _) (wsM_st27 _ _ _ _ (by first | omega | exact bi_rng _) _) dX7_finds_122 ?_
                    refine x_aload_n C dX7_finds_123 rfl rfl ?_
                    refine m_get (f := 27) C (by decide) u2_21 rfl rfl dX7_finds_124 ?_
                    refine x_iload C dX7_finds_127 rfl ?_
                    refine x_iload C dX7_finds_129 rfl ?_
                    refine m_iast (f := 27) (q0 := 22) (N := 20) C rfl (by decide) (by first | omega | exact bi_rng _) (wsM_st27 _ _ _ _ (by first | omega | exact bi_rng _) _) dX7_finds_131 ?_
                    refine x_iconst C dX7_finds_132 ?_
                    refine x_istore_n C dX7_finds_133 rfl (by rw [hn]; exact Nat.le_of_ble_eq_true rfl) ?_
                    refine x_iinc C dX7_finds_134 (by rw [hn]; exact Nat.le_of_ble_eq_true rfl) rfl ?_
                    refine x_goto (tgt := 31) C dX7_finds_137 (by decide) ?_
                    have hst9 := FA.step hM hA1 (e := i) (its := M1 27 (10 + M 4 i)) (by omega) (hlk.mp h62) h78 (by omega) (by omega) (by omega)
                    exact X.to (ih3 (i + 1) _ 1 hst9.1 (by omega) (by omega) (Or.inr rfl) (Or.inr ⟨rfl, by rcases hinv with ⟨q1, q2, q3⟩ | ⟨q1, q2⟩ <;> omega⟩)) (lsc rfl (lsc rfl (lsc rfl (lsn))))
        exact X.to (loop3 (N + 1) 0 M0 0 hA0 (by omega) (by omega) (Or.inl rfl) (Or.inl ⟨rfl, rfl, fun e g0 g1 => by omega⟩)) (lsc rfl (lsc rfl (lsc rfl lsn)))
  have k9 : ∀ (M1 : MS), FA M M1 → ∀ i : Nat, X φ (IM cy b (t, M1)) 0 0 21 [(0, vr (some (b 0))), (1, vi (i : Int))] [] := by
    intro M1 hA1 i
    refine x_iconst C dX7_finds_21 ?_
    refine x_istore_n C dX7_finds_22 rfl (by rw [hn]; exact Nat.le_of_ble_eq_true rfl) ?_
    exact X.to (loop2 _ M1 1 hA1 (Or.inr rfl) (Or.inl rfl) (Nat.lt_succ_self _)) (lsc rfl (lsc rfl lsn))
  have loop1 : ∀ (f i : Nat) (M1 : MS), (∀ k, k ≠ 27 → M1 k = M k) → (∀ j : Int, 0 ≤ j → j < i → M1 27 j = j) → i ≤ 20 → 20 - i < f → X φ (IM cy b (t, M1)) 0 0 2 [(0, vr (some (b 0))), (1, vi (i : Int))] [] := by
    intro f
    induction f with
    | zero => intro i M1 _ _ h1 h2; omega
    | succ f ih =>
      intro i M1 hs hl h1 h2
      refine x_iload_n C dX7_finds_2 rfl rfl ?_
      refine x_bipush C dX7_finds_3 (by decide) ?_
      refine x_icmp_ge (tgt := 21) C dX7_finds_5 (by decide) (by first | omega | exact bi_rng _) (by first | omega | exact bi_rng _) (fun h5 => ?_) (fun h5 => ?_)
      ·
        exact k9 M1 ⟨hs, fun a h0 h3 => by rw [hl a h0 (by omega)]; exact ⟨by omega, Conn.rf M a⟩⟩ _
      ·
        refine x_aload_n C dX7_finds_8 rfl rfl ?_
        refine m_get (f := 27) C (by decide) u2_21 rfl rfl dX7_finds_9 ?_
        refine x_iload_n C dX7_finds_12 rfl rfl ?_
        refine x_iload_n C dX7_finds_13 rfl rfl ?_
        refine m_iast (f := 27) (q0 := 22) (N := 20) C rfl (by decide) (by first | omega | exact bi_rng _) (wsM_st27 _ _ _ _ (by first | omega | exact bi_rng _) _) dX7_finds_14 ?_
        refine x_iinc C dX7_finds_15 (by rw [hn]; exact Nat.le_of_ble_eq_true rfl) rfl ?_
        refine x_goto (tgt := 2) C dX7_finds_18 (by decide) ?_
        exact X.to (ih (i + 1) (mset M1 27 i i) (fun k hk => by rw [mset_row hk]; exact hs k hk) (fun j h0 h3 => by rw [mset_at]; split <;> first | omega | exact hl j h0 (by omega)) (by omega) (by omega)) (lsc rfl (lsc rfl (lsn)))
  refine x_iconst C dX7_finds_0 ?_
  refine x_istore_n C dX7_finds_1 rfl (by rw [hn]; exact Nat.le_of_ble_eq_true rfl) ?_
  exact X.to (loop1 21 0 M (fun _ _ => rfl) (fun j h0 h1 => by omega) (by omega) (by omega)) (lsc rfl (lsc rfl (lsn)))

/-! The law's colours -/
theorem LR.cg {V V' M : MS} (hc : ∀ k, k ≠ 2 → V' k = V k) (hL : LR V M) : LR V' M := by
  unfold LR
  rw [hc 0 (by decide), hc 1 (by decide), hc 3 (by decide), hc 4 (by decide)]
  exact hL
def FP (M V V' : MS) (es : List Int) (f : Int → Int) : Prop := (∀ k, k ≠ 2 → V' k = V k) ∧ (∀ i, 0 ≤ i → i < 6 → V' 2 i = f (nn i)) ∧ LwI M es f ∧ ∀ e ∈ es, (0 ≤ e ∧ e < M 2 0) ∧ M 9 e = 0
theorem FP.rng {M V V' : MS} {es : List Int} {f : Int → Int} (q : FP M V V' es f) {j : Int} (h0 : 0 ≤ j) (h1 : j < 6) : 0 ≤ V' 2 j ∧ V' 2 j ≤ 19 := by
  have h2 := nn_in ⟨h0, h1⟩
  have h3 := (q.2.2.1.1 (nn j) h2.1 h2.2).1
  rw [q.2.1 j h0 h1]
  omega
theorem FP.skip {M V V' : MS} {es : List Int} {f : Int → Int} {e : Int} (hM : MI M) (q : FP M V V' es f) (he : (0 ≤ e ∧ e < M 2 0) ∧ M 9 e = 0) (hl : ¬ lnk0 M e) : FP M V V' (es ++ [e]) (jbF M f e) := by
  have h1 : jbF M f e = f := if_neg hl
  have h2 := q.2.2.1.jb hM he.1
  refine ⟨q.1, by rw [h1]; exact q.2.1, h2, fun u hu => ?_⟩
  rcases List.mem_append.mp hu with hu | hu
  · exact q.2.2.2 u hu
  · rw [List.mem_singleton.mp hu]; exact he
theorem FP.join {M V V' V2 : MS} {es : List Int} {f : Int → Int} {e one two : Int} (hM : MI M) (q : FP M V V' es f) (he : (0 ≤ e ∧ e < M 2 0) ∧ M 9 e = 0) (hb : (0 ≤ M 4 e ∧ M 4 e ≤ 2) ∧ (0 ≤ M 5 e ∧ M 5 e ≤ 2)) (hl : lnk0 M e) (h12 : (V' 2 (M 5 e) < V' 2 (3 + M 4 e) ∧ one = V' 2 (M 5 e) ∧ two = V' 2 (3 + M 4 e)) ∨ (V' 2 (3 + M 4 e) ≤ V' 2 (M 5 e) ∧ one = V' 2 (3 + M 4 e) ∧ two = V' 2 (M 5 e))) (hc : ∀ k, k ≠ 2 → V2 k = V' k) (hv : ∀ j, 0 ≤ j → j < 6 → V2 2 j = if V' 2 j = two then one else V' 2 j) : FP M V V2 (es ++ [e]) (jbF M f e) := by
  have h2 := q.2.2.1.jb hM he.1
  refine ⟨fun k hk => (hc k hk).trans (q.1 k hk), fun i h0 h1 => ?_, h2, fun u hu => ?_⟩
  · have e1 := q.2.1 (M 5 e) (by omega) (by omega)
    have e2 := q.2.1 (3 + M 4 e) (by omega) (by omega)
    rw [nn_lo (by omega)] at e1
    rw [nn_hi (by omega), show 7 + (3 + M 4 e) = 10 + M 4 e by omega] at e2
    have e3 : jbF M f e = jnF one two f := by
      have e4 : jbF M f e = (if f (10 + M 4 e) < f (M 5 e) then jnF (f (10 + M 4 e)) (f (M 5 e)) f else jnF (f (M 5 e)) (f (10 + M 4 e)) f) := if_pos hl
      rw [e4, ← e1, ← e2]
      rcases h12 with ⟨g1, g2, g3⟩ | ⟨g1, g2, g3⟩
      · rw [if_neg (by omega), g2, g3]
      · by_cases g4 : V' 2 (3 + M 4 e) < V' 2 (M 5 e)
        · rw [if_pos g4, g2, g3]
        · rw [if_neg g4, g2, g3, show V' 2 (3 + M 4 e) = V' 2 (M 5 e) by omega]
    rw [hv i h0 h1, e3, q.2.1 i h0 h1]
    rfl
  · rcases List.mem_append.mp hu with hu | hu
    · exact q.2.2.2 u hu
    · rw [List.mem_singleton.mp hu]; exact he
theorem LwI.low2 {M : MS} {es : List Int} (hm : ∀ e, e ∈ es ↔ ((0 ≤ e ∧ e < M 2 0) ∧ M 9 e = 0)) {f : Int → Int} (h : LwI M es f) : IsLow M f := by
  refine ⟨fun a h0 h1 => ⟨(h.1 a h0 h1).1, fun g hg => ?_⟩, fun x y hxy => ?_⟩
  · refine (h.1 a h0 h1).2.2 g (fun e he hl => hg _ _ ?_)
    have := (hm e).mp he
    exact ⟨e, this.1, ⟨this.2, hl⟩, rfl, rfl⟩
  · obtain ⟨e, he, hl, rfl, rfl⟩ := hxy
    exact h.2 e ((hm e).mpr ⟨he, hl.1⟩) hl.2

set_option maxRecDepth 100000 in
set_option maxHeartbeats 400000 in
theorem k_L_finds {l : Launch} {D : va_G} {cy : CY} (hst : l.stackTraces = false) {ba : Nat → Nat} {h : HS} {V M : MS} (hL : LR V M) (hM : MI M) (hN : M 2 0 ≤ 50)   : Ct l D cy yL_finds (Cond.code yL_finds cL_finds 11 none) 1 22 0 0 (LA cy ba) [vr (some (ba 0)), vr (some (ba 1)), vr (some (ba 2)), vi (M 2 0)] (h, V) (fun r q' => r = .ok none ∧ ∃ V', q' = (h, V') ∧ (∀ k, k ≠ 2 → V' k = V k) ∧ ∃ f, IsLow M f ∧ ∀ i, 0 ≤ i → i < 6 → V' 2 i = f (nn i)) := by
  refine Ct.of1 (own := RL) hst (by decide) rfl (Nat.le_of_ble_eq_true rfl) (cat1 (vr_cat _) (cat1 (vr_cat _) (cat1 (vr_cat _) (cat1 (vi_cat _) (cat0))))) ?_
  intro φ C hQ hn hR hl hD
  subst hl hD
  have hn0 := hM.n
  have loop2 : ∀ (f2 r : Nat) (V1 : MS) (fl : Int → Int) (es : List Int), r ≤ 6 → 6 - r < f2 → FP M V V1 es fl → (r = 0 ∨ ∀ u, 0 ≤ u → u < M 2 0 → M 9 u = 0 → u ∈ es) → X φ (LA cy ba (h, V1)) 0 0 39 [(0, vr (some (ba 0))), (1, vr (some (ba 1))), (2, vr (some (ba 2))), (3, vi (M 2 0)), (4, vi (r : Int))] [] := by
    intro f2
    induction f2 with
    | zero => intro r V1 fl es h1 h2; omega
    | succ f2 ih2 =>
      intro r V1 fl es h1 h2 q hor
      have K233 : r < 6 → ∀ (V1 : MS) (fl : Int → Int) (es : List Int), FP M V V1 es fl → (∀ u, 0 ≤ u → u < M 2 0 → M 9 u = 0 → u ∈ es) → X φ (LA cy ba (h, V1)) 0 0 233 [(0, vr (some (ba 0))), (1, vr (some (ba 1))), (2, vr (some (ba 2))), (3, vi (M 2 0)), (4, vi (r : Int))] [] := by
        intro hr6 V1 fl es q hall
        refine x_iinc C dL_finds_233 (by rw [hn]; exact Nat.le_of_ble_eq_true rfl) rfl ?_
        refine x_goto (tgt := 39) C dL_finds_236 (by decide) ?_
        exact X.to (ih2 (r + 1) V1 fl es (by omega) (by omega) q (Or.inr hall)) (lsc (rfl) (lsc (rfl) (lsc (rfl) (lsc (rfl) (lsc (lkv (by omega)) (lsn))))))
      have loop3 : r < 6 → ∀ (f3 kk : Nat) (V1 : MS) (fl : Int → Int) (es : List Int), (kk : Int) ≤ M 2 0 → M 2 0 - kk < f3 → FP M V V1 es fl → (∀ u, 0 ≤ u → u < (kk : Int) → M 9 u = 0 → u ∈ es) → X φ (LA cy ba (h, V1)) 0 0 49 [(0, vr (some (ba 0))), (1, vr (some (ba 1))), (2, vr (some (ba 2))), (3, vi (M 2 0)), (4, vi (r : Int)), (5, vi (kk : Int))] [] := by
        intro hr6 f3
        induction f3 with
        | zero => intro kk V1 fl es h1 h2; omega
        | succ f3 ih3 =>
          intro kk V1 fl es h1 h2 q hall
          have hL1 := LR.cg q.1 hL
          have hlv : ¬ M 9 kk = 1 → M 9 kk = 0 := fun g => by have := hM.b9 kk; omega
          by_cases hlt : (kk : Int) < M 2 0
          · have hgone : M 9 kk = 1 → ∀ u, 0 ≤ u → u < (kk : Int) + 1 → M 9 u = 0 → u ∈ es := fun g u u0 u1 u9 => hall u u0 (by
              by_cases hu : u = kk
              · rw [hu] at u9; omega
              · omega) u9
            have hmore : M 9 kk = 0 → ∀ u, 0 ≤ u → u < (kk : Int) + 1 → M 9 u = 0 → u ∈ es ++ [(kk : Int)] := fun _ u u0 u1 u9 => by
              by_cases hu : u = kk
              · exact List.mem_append_right _ (by rw [hu]; exact List.mem_cons_self)
              · exact List.mem_append_left _ (hall u u0 (by omega) u9)
            have hbb := (hL1.1 kk (by omega) hlt).1
            obtain ⟨b4, b5, b6, b7, b8⟩ := id hbb
            have K227 : ∀ (V2 : MS) (es2 : List Int) (f2 : Int → Int), FP M V V2 es2 f2 → (∀ u, 0 ≤ u → u < (kk : Int) + 1 → M 9 u = 0 → u ∈ es2) → X φ (LA cy ba (h, V2)) 0 0 227 [(0, vr (some (ba 0))), (1, vr (some (ba 1))), (2, vr (some (ba 2))), (3, vi (M 2 0)), (4, vi (r : Int)), (5, vi (kk : Int))] [] := by
              intro V2 es2 f2 q2 hal2
              refine x_iinc C dL_finds_227 (by rw [hn]; exact Nat.le_of_ble_eq_true rfl) rfl ?_
              refine x_goto (tgt := 49) C dL_finds_230 (by decide) ?_
              exact X.to (ih3 (kk + 1) V2 f2 es2 (by omega) (by omega) q2 (fun u u0 u1 u9 => hal2 u u0 (by omega) u9)) (lsc (rfl) (lsc (rfl) (lsc (rfl) (lsc (rfl) (lsc (rfl) (lsc (lkv (by omega)) (lsn)))))))
            have K189 : ∀ one two : Int, lnk0 M kk → M 9 kk = 0 → (0 ≤ one ∧ one ≤ 19) → (0 ≤ two ∧ two ≤ 19) → ((V1 2 (M 5 kk) < V1 2 (3 + M 4 kk) ∧ one = V1 2 (M 5 kk) ∧ two = V1 2 (3 + M 4 kk)) ∨ (V1 2 (3 + M 4 kk) ≤ V1 2 (M 5 kk) ∧ one = V1 2 (3 + M 4 kk) ∧ two = V1 2 (M 5 kk))) → X φ (LA cy ba (h, V1)) 0 0 189 [(0, vr (some (ba 0))), (1, vr (some (ba 1))), (2, vr (some (ba 2))), (3, vi (M 2 0)), (4, vi (r : Int)), (5, vi (kk : Int)), (8, vi one), (9, vi two)] [] := by
              intro one two hlk hlive ho1 ht2 h12
              have hm5 := hlk.1
              have hall2 : ∀ u, 0 ≤ u → u < (kk : Int) + 1 → M 9 u = 0 → u ∈ es ++ [(kk : Int)] := fun u u0 u1 u9 => by
                by_cases hu : u = kk
                · exact List.mem_append_right _ (by rw [hu]; exact List.mem_cons_self)
                · exact List.mem_append_left _ (hall u u0 (by omega) u9)
              have loop4 : ∀ (f4 i : Nat) (V2 : MS), i ≤ 6 → 6 - i < f4 → (∀ k, k ≠ 2 → V2 k = V1 k) → (∀ j : Int, 0 ≤ j → j < 6 → V2 2 j = if j < i ∧ V1 2 j = two then one else V1 2 j) → X φ (LA cy ba (h, V2)) 0 0 192 [(0, vr (some (ba 0))), (1, vr (some (ba 1))), (2, vr (some (ba 2))), (3, vi (M 2 0)), (4, vi (r : Int)), (5, vi (kk : Int)), (8, vi one), (9, vi two), (10, vi (i : Int))] [] := by
                intro f4
                induction f4 with
                | zero => intro i V2 h1 h2; omega
                | succ f4 ih4 =>
                  intro i V2 h1 h2 g1 g2
                  have hg6 : 6 ≤ (i : Int) → ∀ j : Int, 0 ≤ j → j < 6 → V2 2 j = if V1 2 j = two then one else V1 2 j := fun hi j j0 j1 => by
                    rw [g2 j j0 j1]
                    by_cases hj : V1 2 j = two
                    · rw [if_pos ⟨by omega, hj⟩, if_pos hj]
                    · rw [if_neg (fun q9 => hj q9.2), if_neg hj]
                  refine x_iload C dL_finds_192 rfl ?_
                  refine x_bipush C dL_finds_194 (by decide) ?_
                  refine x_icmp_ge (tgt := 227) C dL_finds_196 (by decide) (by first | omega | exact bi_rng _) (by first | omega | exact bi_rng _) (fun h196 => ?_) (fun h196 => ?_)
                  ·
                    exact X.to (K227 V2 _ _ (q.join hM ⟨⟨by omega, by omega⟩, hlive⟩ ⟨by omega, by omega⟩ hlk h12 g1 (hg6 (by omega))) hall2) (lsc rfl (lsc rfl (lsc rfl (lsc rfl (lsc rfl (lsc rfl (lsn)))))))
                  ·
                    have g9 := g2 i (by omega) (by omega)
                    rw [if_neg (by omega)] at g9
                    have r9 := q.rng (j := i) (by omega) (by omega)
                    refine x_aload_n C dL_finds_199 rfl rfl ?_
                    refine x_iload C dL_finds_200 rfl ?_
                    refine x_aload_n C dL_finds_202 rfl rfl ?_
                    refine x_iload C dL_finds_203 rfl ?_
                    refine a_iald (f := 2) (N := 6) C rfl (by decide) (by first | omega | exact bi_rng _) dL_finds_205 ?_
                    refine x_iload C dL_finds_206 rfl ?_
                    refine x_icmp_ne (tgt := 216) C dL_finds_208 (by decide) (by first | omega | exact bi_rng _) (by first | omega | exact bi_rng _) (fun h208 => ?_) (fun h208 => ?_)
                    ·
                      refine x_aload_n C dL_finds_216 rfl rfl ?_
                      refine x_iload C dL_finds_217 rfl ?_
                      refine a_iald (f := 2) (N := 6) C rfl (by decide) (by first | omega | exact bi_rng _) dL_finds_219 ?_
                      refine a_iast (f := 2) (N := 6) C rfl (by decide) (by first | omega | exact bi_rng _) (wsA_st2 _ _ _ (by first | omega | exact bi_rng _) _) dL_finds_220 ?_
                      refine x_iinc C dL_finds_221 (by rw [hn]; exact Nat.le_of_ble_eq_true rfl) rfl ?_
                      refine x_goto (tgt := 192) C dL_finds_224 (by decide) ?_
                      exact X.to (ih4 (i + 1) (mset V2 2 i _) (by omega) (by omega) (fun k9 hk9 => by rw [mset_row hk9]; exact g1 k9 hk9) (fun j j0 j1 => by
                        rw [mset_at]
                        have g3 := g2 j j0 j1
                        split
                        · rename_i hj; subst hj; split <;> split at g3 <;> omega
                        · split <;> split at g3 <;> omega)) (lsc (rfl) (lsc (rfl) (lsc (rfl) (lsc (rfl) (lsc (rfl) (lsc (rfl) (lsc (rfl) (lsc (rfl) (lsc (lkv (by omega)) (lsn))))))))))
                    ·
                      refine x_iload C dL_finds_211 rfl ?_
                      refine x_goto (tgt := 220) C dL_finds_213 (by decide) ?_
                      refine a_iast (f := 2) (N := 6) C rfl (by decide) (by first | omega | exact bi_rng _) (wsA_st2 _ _ _ (by first | omega | exact bi_rng _) _) dL_finds_220 ?_
                      refine x_iinc C dL_finds_221 (by rw [hn]; exact Nat.le_of_ble_eq_true rfl) rfl ?_
                      refine x_goto (tgt := 192) C dL_finds_224 (by decide) ?_
                      exact X.to (ih4 (i + 1) (mset V2 2 i _) (by omega) (by omega) (fun k9 hk9 => by rw [mset_row hk9]; exact g1 k9 hk9) (fun j j0 j1 => by
                        rw [mset_at]
                        have g3 := g2 j j0 j1
                        split
                        · rename_i hj; subst hj; split <;> split at g3 <;> omega
                        · split <;> split at g3 <;> omega)) (lsc (rfl) (lsc (rfl) (lsc (rfl) (lsc (rfl) (lsc (rfl) (lsc (rfl) (lsc (rfl) (lsc (rfl) (lsc (lkv (by omega)) (lsn))))))))))
              refine x_iconst C dL_finds_189 ?_
              refine x_istore C dL_finds_190 (by rw [hn]; exact Nat.le_of_ble_eq_true rfl) ?_
              exact X.to (loop4 7 0 V1 (by omega) (by omega) (fun _ _ => rfl) (fun j j0 j1 => by rw [if_neg (by omega)])) (lsc rfl (lsc rfl (lsc rfl (lsc rfl (lsc rfl (lsc rfl (lsc rfl (lsc rfl (lsc rfl (lsn))))))))))
            refine x_iload C dL_finds_49 rfl ?_
            refine x_iload_n C dL_finds_51 rfl rfl ?_
            refine x_icmp_ge (tgt := 233) C dL_finds_52 (by decide) (by first | omega | exact bi_rng _) (by first | omega | exact bi_rng _) (fun h52 => ?_) (fun h52 => ?_)
            ·
              exact X.to (K233 hr6 V1 fl es q (fun u u0 u1 u9 => hall u u0 (by omega) u9)) (lsc rfl (lsc rfl (lsc rfl (lsc rfl (lsc rfl (lsn))))))
            ·
              refine x_aload_n C dL_finds_55 rfl rfl ?_
              refine x_iload C dL_finds_56 rfl ?_
              refine x_callS C hR cb_L_isGone u3_18 u3_17 (kg hst hL1 hN (by omega)) rfl (Nat.le_of_ble_eq_true rfl) rfl dL_finds_58 (by decide) (by decide) (fun E x9 h9 => absurd h9.1 (by intro h; cases h)) (fun r9 x9 h9 => ?_)
              obtain ⟨e9, rfl⟩ := h9
              cases e9
              refine x_if_eq (tgt := 68) C dL_finds_61 (by decide) (by first | omega | exact bi_rng _) (fun h61 => ?_) (fun h61 => ?_)
              ·
                replace h61 := bi_eq0.mp h61
                obtain ⟨⟨b4, b5, b6, b7, b8⟩, -⟩ := hL1.live (k := kk) ⟨by omega, by omega⟩ (hlv h61)
                have w0 := hL1.2.1 (M 4 kk) (by omega) (by omega)
                have w1 := w0.2.1
                have w2 := hM.b12 (M 4 kk)
                have w3 := hM.b13 (10 * M 4 kk + M 5 kk)
                refine x_aload_n C dL_finds_68 rfl rfl ?_
                refine x_iload C dL_finds_69 rfl ?_
                refine x_iconst C dL_finds_71 ?_
                refine x_callS C hR cb_L_part u3_21 u3_20 (kp0 hst hL1 hN (by omega) (hlv h61)) rfl (Nat.le_of_ble_eq_true rfl) rfl dL_finds_72 (by decide) (by decide) (fun E x9 h9 => absurd h9.1 (by intro h; cases h)) (fun r9 x9 h9 => ?_)
                obtain ⟨e9, rfl⟩ := h9
                cases e9
                refine x_istore C dL_finds_75 (by rw [hn]; exact Nat.le_of_ble_eq_true rfl) ?_
                refine x_aload_n C dL_finds_77 rfl rfl ?_
                refine x_iload C dL_finds_78 rfl ?_
                refine x_callS C hR cb_L_isGone u3_18 u3_17 (kg hst hL1 hN (by omega)) rfl (Nat.le_of_ble_eq_true rfl) rfl dL_finds_80 (by decide) (by decide) (fun E x9 h9 => absurd h9.1 (by intro h; cases h)) (fun r9 x9 h9 => ?_)
                obtain ⟨e9, rfl⟩ := h9
                cases e9
                refine x_if_eq (tgt := 90) C dL_finds_83 (by decide) (by first | omega | exact bi_rng _) (fun h83 => ?_) (fun h83 => ?_)
                ·
                  replace h83 := bi_eq0.mp h83
                  refine x_aload_n C dL_finds_90 rfl rfl ?_
                  refine x_iload C dL_finds_91 rfl ?_
                  refine x_iconst C dL_finds_93 ?_
                  refine x_callS C hR cb_L_part u3_21 u3_20 (kp1 hst hL1 hN (by omega) (hlv h61)) rfl (Nat.le_of_ble_eq_true rfl) rfl dL_finds_94 (by decide) (by decide) (fun E x9 h9 => absurd h9.1 (by intro h; cases h)) (fun r9 x9 h9 => ?_)
                  obtain ⟨e9, rfl⟩ := h9
                  cases e9
                  refine x_istore C dL_finds_97 (by rw [hn]; exact Nat.le_of_ble_eq_true rfl) ?_
                  refine x_iload C dL_finds_99 rfl ?_
                  refine x_if_lt (tgt := 227) C dL_finds_101 (by decide) (by first | omega | exact bi_rng _) (fun h101 => ?_) (fun h101 => ?_)
                  ·
                    exact X.to (K227 V1 _ _ (q.skip hM ⟨⟨by omega, by omega⟩, hlv h61⟩ (fun hlk => by have l1 := hlk.1; have l2 := hlk.2.1; have l3 := hlk.2.2; omega)) (hmore (hlv h61))) (lsc rfl (lsc rfl (lsc rfl (lsc rfl (lsc rfl (lsc rfl (lsn)))))))
                  ·
                    have w4 := w0.2.2 (M 5 kk) (by omega) (by omega)
                    have r1 := q.rng (j := M 5 kk) (by omega) (by omega)
                    have r2 := q.rng (j := 3 + M 4 kk) (by omega) (by omega)
                    refine x_aload_n C dL_finds_104 rfl rfl ?_
                    refine x_iconst C dL_finds_105 ?_
                    refine x_iload C dL_finds_106 rfl ?_
                    refine x_iadd C dL_finds_108 ?_
                    refine a_iald (f := 1) (N := 15) C rfl (by decide) (by first | omega | exact bi_rng _) dL_finds_109 ?_
                    refine x_iconst C dL_finds_110 ?_
                    refine x_icmp_eq (tgt := 227) C dL_finds_111 (by decide) (by first | omega | exact bi_rng _) (by first | omega | exact bi_rng _) (fun h111 => ?_) (fun h111 => ?_)
                    ·
                      exact X.to (K227 V1 _ _ (q.skip hM ⟨⟨by omega, by omega⟩, hlv h61⟩ (fun hlk => by have l1 := hlk.1; have l2 := hlk.2.1; have l3 := hlk.2.2; omega)) (hmore (hlv h61))) (lsc rfl (lsc rfl (lsc rfl (lsc rfl (lsc rfl (lsc rfl (lsn)))))))
                    ·
                      refine x_aload_n C dL_finds_114 rfl rfl ?_
                      refine x_bipush C dL_finds_115 (by decide) ?_
                      refine x_iconst C dL_finds_117 ?_
                      refine x_iload C dL_finds_118 rfl ?_
                      refine x_imul C dL_finds_120 ?_
                      refine x_iadd C dL_finds_121 ?_
                      refine x_iload C dL_finds_122 rfl ?_
                      refine x_iadd C dL_finds_124 ?_
                      refine a_iald (f := 1) (N := 15) C rfl (by decide) (by first | omega | exact bi_rng _) dL_finds_125 ?_
                      refine x_iconst C dL_finds_126 ?_
                      refine x_icmp_ne (tgt := 133) C dL_finds_127 (by decide) (by first | omega | exact bi_rng _) (by first | omega | exact bi_rng _) (fun h127 => ?_) (fun h127 => ?_)
                      ·
                        refine x_aload_n C dL_finds_133 rfl rfl ?_
                        refine x_iload C dL_finds_134 rfl ?_
                        refine a_iald (f := 2) (N := 6) C rfl (by decide) (by first | omega | exact bi_rng _) dL_finds_136 ?_
                        refine x_aload_n C dL_finds_137 rfl rfl ?_
                        refine x_iconst C dL_finds_138 ?_
                        refine x_iload C dL_finds_139 rfl ?_
                        refine x_iadd C dL_finds_141 ?_
                        refine a_iald (f := 2) (N := 6) C rfl (by decide) (by first | omega | exact bi_rng _) dL_finds_142 ?_
                        refine x_icmp_ge (tgt := 153) C dL_finds_143 (by decide) (by first | omega | exact bi_rng _) (by first | omega | exact bi_rng _) (fun h143 => ?_) (fun h143 => ?_)
                        ·
                          refine x_aload_n C dL_finds_153 rfl rfl ?_
                          refine x_iconst C dL_finds_154 ?_
                          refine x_iload C dL_finds_155 rfl ?_
                          refine x_iadd C dL_finds_157 ?_
                          refine a_iald (f := 2) (N := 6) C rfl (by decide) (by first | omega | exact bi_rng _) dL_finds_158 ?_
                          refine x_istore C dL_finds_159 (by rw [hn]; exact Nat.le_of_ble_eq_true rfl) ?_
                          refine x_aload_n C dL_finds_161 rfl rfl ?_
                          refine x_iload C dL_finds_162 rfl ?_
                          refine a_iald (f := 2) (N := 6) C rfl (by decide) (by first | omega | exact bi_rng _) dL_finds_164 ?_
                          refine x_aload_n C dL_finds_165 rfl rfl ?_
                          refine x_iconst C dL_finds_166 ?_
                          refine x_iload C dL_finds_167 rfl ?_
                          refine x_iadd C dL_finds_169 ?_
                          refine a_iald (f := 2) (N := 6) C rfl (by decide) (by first | omega | exact bi_rng _) dL_finds_170 ?_
                          refine x_icmp_ge (tgt := 183) C dL_finds_171 (by decide) (by first | omega | exact bi_rng _) (by first | omega | exact bi_rng _) (fun h171 => ?_) (fun h171 => ?_)
                          ·
                            refine x_aload_n C dL_finds_183 rfl rfl ?_
                            refine x_iload C dL_finds_184 rfl ?_
                            refine a_iald (f := 2) (N := 6) C rfl (by decide) (by first | omega | exact bi_rng _) dL_finds_186 ?_
                            refine x_istore C dL_finds_187 (by rw [hn]; exact Nat.le_of_ble_eq_true rfl) ?_
                            exact X.to (K189 _ _ ⟨by omega, by omega, by omega⟩ (hlv h61) (by omega) (by omega) (by omega)) (lsc rfl (lsc rfl (lsc rfl (lsc rfl (lsc rfl (lsc rfl (lsc rfl (lsc rfl (lsn)))))))))
                          ·
                            refine x_aload_n C dL_finds_174 rfl rfl ?_
                            refine x_iconst C dL_finds_175 ?_
                            refine x_iload C dL_finds_176 rfl ?_
                            refine x_iadd C dL_finds_178 ?_
                            refine a_iald (f := 2) (N := 6) C rfl (by decide) (by first | omega | exact bi_rng _) dL_finds_179 ?_
                            refine x_goto (tgt := 187) C dL_finds_180 (by decide) ?_
                            refine x_istore C dL_finds_187 (by rw [hn]; exact Nat.le_of_ble_eq_true rfl) ?_
                            exact X.to (K189 _ _ ⟨by omega, by omega, by omega⟩ (hlv h61) (by omega) (by omega) (by omega)) (lsc rfl (lsc rfl (lsc rfl (lsc rfl (lsc rfl (lsc rfl (lsc rfl (lsc rfl (lsn)))))))))
                        ·
                          refine x_aload_n C dL_finds_146 rfl rfl ?_
                          refine x_iload C dL_finds_147 rfl ?_
                          refine a_iald (f := 2) (N := 6) C rfl (by decide) (by first | omega | exact bi_rng _) dL_finds_149 ?_
                          refine x_goto (tgt := 159) C dL_finds_150 (by decide) ?_
                          refine x_istore C dL_finds_159 (by rw [hn]; exact Nat.le_of_ble_eq_true rfl) ?_
                          refine x_aload_n C dL_finds_161 rfl rfl ?_
                          refine x_iload C dL_finds_162 rfl ?_
                          refine a_iald (f := 2) (N := 6) C rfl (by decide) (by first | omega | exact bi_rng _) dL_finds_164 ?_
                          refine x_aload_n C dL_finds_165 rfl rfl ?_
                          refine x_iconst C dL_finds_166 ?_
                          refine x_iload C dL_finds_167 rfl ?_
                          refine x_iadd C dL_finds_169 ?_
                          refine a_iald (f := 2) (N := 6) C rfl (by decide) (by first | omega | exact bi_rng _) dL_finds_170 ?_
                          refine x_icmp_ge (tgt := 183) C dL_finds_171 (by decide) (by first | omega | exact bi_rng _) (by first | omega | exact bi_rng _) (fun h171 => ?_) (fun h171 => ?_)
                          ·
                            refine x_aload_n C dL_finds_183 rfl rfl ?_
                            refine x_iload C dL_finds_184 rfl ?_
                            refine a_iald (f := 2) (N := 6) C rfl (by decide) (by first | omega | exact bi_rng _) dL_finds_186 ?_
                            refine x_istore C dL_finds_187 (by rw [hn]; exact Nat.le_of_ble_eq_true rfl) ?_
                            exact X.to (K189 _ _ ⟨by omega, by omega, by omega⟩ (hlv h61) (by omega) (by omega) (by omega)) (lsc rfl (lsc rfl (lsc rfl (lsc rfl (lsc rfl (lsc rfl (lsc rfl (lsc rfl (lsn)))))))))
                          ·
                            refine x_aload_n C dL_finds_174 rfl rfl ?_
                            refine x_iconst C dL_finds_175 ?_
                            refine x_iload C dL_finds_176 rfl ?_
                            refine x_iadd C dL_finds_178 ?_
                            refine a_iald (f := 2) (N := 6) C rfl (by decide) (by first | omega | exact bi_rng _) dL_finds_179 ?_
                            refine x_goto (tgt := 187) C dL_finds_180 (by decide) ?_
                            refine x_istore C dL_finds_187 (by rw [hn]; exact Nat.le_of_ble_eq_true rfl) ?_
                            exact X.to (K189 _ _ ⟨by omega, by omega, by omega⟩ (hlv h61) (by omega) (by omega) (by omega)) (lsc rfl (lsc rfl (lsc rfl (lsc rfl (lsc rfl (lsc rfl (lsc rfl (lsc rfl (lsn)))))))))
                      ·
                        refine x_goto (tgt := 227) C dL_finds_130 (by decide) ?_
                        exact X.to (K227 V1 _ _ (q.skip hM ⟨⟨by omega, by omega⟩, hlv h61⟩ (fun hlk => by have l1 := hlk.1; have l2 := hlk.2.1; have l3 := hlk.2.2; omega)) (hmore (hlv h61))) (lsc rfl (lsc rfl (lsc rfl (lsc rfl (lsc rfl (lsc rfl (lsn)))))))
                ·
                  replace h83 := bi_ne0.mp h83
                  exact absurd h83 h61
              ·
                replace h61 := bi_ne0.mp h61
                refine x_iconst C dL_finds_64 ?_
                refine x_goto (tgt := 75) C dL_finds_65 (by decide) ?_
                refine x_istore C dL_finds_75 (by rw [hn]; exact Nat.le_of_ble_eq_true rfl) ?_
                refine x_aload_n C dL_finds_77 rfl rfl ?_
                refine x_iload C dL_finds_78 rfl ?_
                refine x_callS C hR cb_L_isGone u3_18 u3_17 (kg hst hL1 hN (by omega)) rfl (Nat.le_of_ble_eq_true rfl) rfl dL_finds_80 (by decide) (by decide) (fun E x9 h9 => absurd h9.1 (by intro h; cases h)) (fun r9 x9 h9 => ?_)
                obtain ⟨e9, rfl⟩ := h9
                cases e9
                refine x_if_eq (tgt := 90) C dL_finds_83 (by decide) (by first | omega | exact bi_rng _) (fun h83 => ?_) (fun h83 => ?_)
                ·
                  replace h83 := bi_eq0.mp h83
                  exact absurd h61 h83
                ·
                  replace h83 := bi_ne0.mp h83
                  refine x_iconst C dL_finds_86 ?_
                  refine x_goto (tgt := 97) C dL_finds_87 (by decide) ?_
                  refine x_istore C dL_finds_97 (by rw [hn]; exact Nat.le_of_ble_eq_true rfl) ?_
                  refine x_iload C dL_finds_99 rfl ?_
                  refine x_if_lt (tgt := 227) C dL_finds_101 (by decide) (by decide) (fun _ => ?_) (fun h => absurd h (by decide))
                  exact X.to (K227 V1 es fl q (hgone h61)) (lsc rfl (lsc rfl (lsc rfl (lsc rfl (lsc rfl (lsc rfl (lsn)))))))
          · refine x_iload C dL_finds_49 rfl ?_
            refine x_iload_n C dL_finds_51 rfl rfl ?_
            refine x_icmp_ge (tgt := 233) C dL_finds_52 (by decide) (by omega) (by omega) (fun h52 => ?_) (fun h52 => by omega)
            exact X.to (K233 hr6 V1 fl es q (fun u u0 u1 u9 => hall u u0 (by omega) u9)) (lsc rfl (lsc rfl (lsc rfl (lsc rfl (lsc rfl (lsn))))))
      refine x_iload C dL_finds_39 rfl ?_
      refine x_bipush C dL_finds_41 (by decide) ?_
      refine x_icmp_ge (tgt := 239) C dL_finds_43 (by decide) (by first | omega | exact bi_rng _) (by first | omega | exact bi_rng _) (fun h43 => ?_) (fun h43 => ?_)
      ·
        refine x_vret C hQ dL_finds_239 rfl (by decide) (by decide) ?_
        have hful := hor.resolve_left (by omega)
        exact ⟨rfl, V1, rfl, q.1, fl, LwI.low2 (fun u => ⟨fun hu => q.2.2.2 u hu, fun hu => hful u hu.1.1 hu.1.2 hu.2⟩) q.2.2.1, q.2.1⟩
      ·
        refine x_iconst C dL_finds_46 ?_
        refine x_istore C dL_finds_47 (by rw [hn]; exact Nat.le_of_ble_eq_true rfl) ?_
        exact X.to (loop3 (by omega) ((M 2 0).toNat + 1) 0 V1 fl es (by omega) (by omega) q (fun u u0 u1 => by omega)) (lsc rfl (lsc rfl (lsc rfl (lsc rfl (lsc rfl (lsc rfl (lsn)))))))
  have loop1 : ∀ (f i : Nat) (V1 : MS), i ≤ 6 → 6 - i < f → (∀ k, k ≠ 2 → V1 k = V k) → (∀ j : Int, 0 ≤ j → j < i → V1 2 j = nn j) → X φ (LA cy ba (h, V1)) 0 0 3 [(0, vr (some (ba 0))), (1, vr (some (ba 1))), (2, vr (some (ba 2))), (3, vi (M 2 0)), (4, vi (i : Int))] [] := by
    intro f
    induction f with
    | zero => intro i V1 h1 h2; omega
    | succ f ih =>
      intro i V1 h1 h2 g1 g2
      refine x_iload C dL_finds_3 rfl ?_
      refine x_bipush C dL_finds_5 (by decide) ?_
      refine x_icmp_ge (tgt := 36) C dL_finds_7 (by decide) (by first | omega | exact bi_rng _) (by first | omega | exact bi_rng _) (fun h7 => ?_) (fun h7 => ?_)
      ·
        refine x_iconst C dL_finds_36 ?_
        refine x_istore C dL_finds_37 (by rw [hn]; exact Nat.le_of_ble_eq_true rfl) ?_
        exact X.to (loop2 7 0 V1 (fun a => a) [] (by omega) (by omega) ⟨g1, fun j j0 j1 => g2 j j0 (by omega), LwI.nil M, fun e he => by cases he⟩ (Or.inl rfl)) (lsc rfl (lsc rfl (lsc rfl (lsc rfl (lsc rfl (lsn))))))
      ·
        refine x_aload_n C dL_finds_10 rfl rfl ?_
        refine x_iload C dL_finds_11 rfl ?_
        refine x_iload C dL_finds_13 rfl ?_
        refine x_iconst C dL_finds_15 ?_
        refine x_icmp_ge (tgt := 24) C dL_finds_16 (by decide) (by first | omega | exact bi_rng _) (by first | omega | exact bi_rng _) (fun h16 => ?_) (fun h16 => ?_)
        ·
          refine x_bipush C dL_finds_24 (by decide) ?_
          refine x_iload C dL_finds_26 rfl ?_
          refine x_iadd C dL_finds_28 ?_
          refine a_iast (f := 2) (N := 6) C rfl (by decide) (by first | omega | exact bi_rng _) (wsA_st2 _ _ _ (by first | omega | exact bi_rng _) _) dL_finds_29 ?_
          refine x_iinc C dL_finds_30 (by rw [hn]; exact Nat.le_of_ble_eq_true rfl) rfl ?_
          refine x_goto (tgt := 3) C dL_finds_33 (by decide) ?_
          exact X.to (ih (i + 1) (mset V1 2 i _) (by omega) (by omega) (fun k9 hk9 => by rw [mset_row hk9]; exact g1 k9 hk9) (fun j j0 j1 => by
            rw [mset_at]
            split
            · rename_i hj; subst hj; unfold nn; first | rw [if_pos (by omega)] | rw [if_neg (by omega)]
            · exact g2 j j0 (by omega))) (lsc (rfl) (lsc (rfl) (lsc (rfl) (lsc (rfl) (lsc (lkv (by omega)) (lsn))))))
        ·
          refine x_iload C dL_finds_19 rfl ?_
          refine x_goto (tgt := 29) C dL_finds_21 (by decide) ?_
          refine a_iast (f := 2) (N := 6) C rfl (by decide) (by first | omega | exact bi_rng _) (wsA_st2 _ _ _ (by first | omega | exact bi_rng _) _) dL_finds_29 ?_
          refine x_iinc C dL_finds_30 (by rw [hn]; exact Nat.le_of_ble_eq_true rfl) rfl ?_
          refine x_goto (tgt := 3) C dL_finds_33 (by decide) ?_
          exact X.to (ih (i + 1) (mset V1 2 i _) (by omega) (by omega) (fun k9 hk9 => by rw [mset_row hk9]; exact g1 k9 hk9) (fun j j0 j1 => by
            rw [mset_at]
            split
            · rename_i hj; subst hj; unfold nn; first | rw [if_pos (by omega)] | rw [if_neg (by omega)]
            · exact g2 j j0 (by omega))) (lsc (rfl) (lsc (rfl) (lsc (rfl) (lsc (rfl) (lsc (lkv (by omega)) (lsn))))))
  refine x_iconst C dL_finds_0 ?_
  refine x_istore C dL_finds_1 (by rw [hn]; exact Nat.le_of_ble_eq_true rfl) ?_
  exact X.to (loop1 7 0 V (by omega) (by omega) (fun _ _ => rfl) (fun j j0 j1 => by omega)) (lsc rfl (lsc rfl (lsc rfl (lsc rfl (lsc rfl (lsn))))))

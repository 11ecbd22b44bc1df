/-! The law's own look at a profile -/
set_option maxRecDepth 100000 in
set_option maxHeartbeats 400000 in
theorem k_L_same {l : Launch} {D : va_G} {cy : CY} (hst : l.stackTraces = false) {ba : Nat → Nat} {h : HS} {V M : MS} (hL : LR V M) (hM : MI M) (hN : M 2 0 ≤ 50) {ob : Nat} {node : Int} (R : RC ob h M) (hlow : IsLow M (M 27)) (hP : ∀ i, 0 ≤ i → i < 6 → V 2 i = M 27 (nn i)) (hX : LX M) (hnode : 0 ≤ node ∧ node < 6) : Ct l D cy yL_same (Cond.code yL_same cL_same 20 (some .boolean)) 8 129 400 2400 (LA cy ba) [vr (some ob), vr (some (ba 0)), vr (some (ba 1)), vr (some (ba 2)), vr (some (ba 3)), vr (some (ba 4)), vi (M 2 0), vi node, vi (M 1 0)] (h, V) (fun r q' => r = .ok (some (vi 1)) ∧ ∃ h', q' = (h', V) ∧ RC ob h' M) := by
  refine Ct.of1 (own := RL) hst (by decide) rfl (Nat.le_of_ble_eq_true rfl) (cat1 (vr_cat _) (cat1 (vr_cat _) (cat1 (vr_cat _) (cat1 (vr_cat _) (cat1 (vr_cat _) (cat1 (vr_cat _) (cat1 (vi_cat _) (cat1 (vi_cat _) (cat1 (vi_cat _) (cat0)))))))))) ?_
  intro φ C hQ hn hR hl hD
  subst hl hD
  have hnn := nn_in hnode
  have hx19 : 0 ≤ nn node ∧ nn node ≤ 19 := by omega
  obtain ⟨l0, hord⟩ := R.no
  obtain ⟨pl, hpl⟩ : ∃ pl, pl = prof M l0 (nn node) := ⟨_, rfl⟩
  have hp : PR M (nn node) pl := by rw [hpl]; exact hord.pr (nn node)
  have hn0 := hM.n
  have hpn := hp.at_rng hn0.1
  have hlen : (pl.length : Int) ≤ M 2 0 := by
    rw [hpl]
    have h8 := hord.len hn0.1
    have h9 : (prof M l0 (nn node)).length ≤ l0.length := List.length_filter_le _ _
    omega
  have hat : ∀ j : Nat, 0 ≤ at1 pl j → (0 ≤ at1 pl j ∧ at1 pl j < M 2 0) ∧ M 9 (at1 pl j) = 0 := fun j hj => by
    have h1 := hpn j
    have h2 : j < pl.length := by
      rcases Nat.lt_or_ge j pl.length with g | g
      · exact g
      · have := h1.2.2.mpr g; omega
    have h3 := hp.at_in h2
    exact ⟨h3.1, h3.2.1⟩
  have hl27 := hM.low (nn node) hnn.1 hnn.2
  have hP0 := hP node hnode.1 hnode.2
  have loop : ∀ (fu j : Nat) (la se be of ins : Int) (h1 : HS), j ≤ pl.length → pl.length - j < fu → RC ob h1 M → SIn M pl j la se be of ins → X φ (LA cy ba (h1, V)) (2 + 6 * j) (12 + 36 * j) 67 [(0, vr (some ob)), (1, vr (some (ba 0))), (2, vr (some (ba 1))), (3, vr (some (ba 2))), (4, vr (some (ba 3))), (5, vr (some (ba 4))), (6, vi (M 2 0)), (7, vi node), (8, vi (M 1 0)), (9, vi (nn node)), (10, vi (j : Int)), (11, vi la), (12, vi se), (13, vi be), (14, vi of), (15, vi ins), (16, vi (ccF M pl j))] [] := by
    intro fu
    induction fu with
    | zero => intro j la se be of ins h1 g1 g2; omega
    | succ fu ih =>
      intro j la se be of ins h1 hj hfu R hI
      have hrg := hI.1
      have hjn := hpn j
      have hnx9 : 0 ≤ at1 pl j → M 9 (at1 pl j) = 0 := fun g => (hat j g).2
      have hnow := hM.now
      have hlst : (la = -1 ∧ j = 0) ∨ (0 < j ∧ la = at1 pl (j - 1) ∧ 0 ≤ la ∧ la < M 2 0) := by
        rcases hI.2 with ⟨g1, g2, -⟩ | ⟨g1, g2, -⟩
        · exact Or.inl ⟨g2, g1⟩
        · have g3 := hpn (j - 1)
          refine Or.inr ⟨g1, g2, ?_, ?_⟩ <;> omega
      have hla9 : 0 ≤ la → M 9 la = 0 := fun g => by
        rcases hlst with ⟨g1, -⟩ | ⟨-, g1, -⟩
        · omega
        · rw [g1]
          exact (hat (j - 1) (by omega)).2
      have hnext : NxP pl la j := by
        rcases hlst with g | ⟨g1, g2, -⟩
        · exact Or.inl g
        · exact Or.inr ⟨j - 1, by omega, by omega, g2⟩
      have K487 : ∀ h2 : HS, RC ob h2 M → at1 pl j < 0 → X φ (LA cy ba (h2, V)) (6 + 6 * j) (36 + 36 * j) 487 [(0, vr (some ob)), (1, vr (some (ba 0))), (2, vr (some (ba 1))), (3, vr (some (ba 2))), (4, vr (some (ba 3))), (5, vr (some (ba 4))), (6, vi (M 2 0)), (7, vi node), (8, vi (M 1 0)), (9, vi (nn node)), (10, vi (j : Int)), (12, vi se), (16, vi (ccF M pl j))] [] := by
        intro h2 R hlt
        have hjl : pl.length = j := by omega
        have v1 := ev_len hp hn0.1
        have v2 := hI.fin hjl
        have v3 := cc_all hp hn0.1 (Nat.le_of_eq hjl)
        have v4 := gr_one (x := nn node) hX.2.2.1 hX.2.2.2.1 hX.2.2.2.2.1 hX.2.2.2.2.2.1 hX.2.2.2.2.2.2
        have v5 := ccF_in M pl j
        have v6 : grF M (nn node) (M 17 0).toNat = if 2 ≤ ccF M pl j then 1 else 0 := by rw [v4, v3]
        have v7 : (2 ≤ ccF M pl j ∧ grF M (nn node) (M 17 0).toNat = 1) ∨ (¬ 2 ≤ ccF M pl j ∧ grF M (nn node) (M 17 0).toNat = 0) := by
          rw [v6]
          split <;> omega
        refine x_aload_n C dL_same_487 rfl rfl ?_
        refine x_iload C dL_same_488 rfl ?_
        refine x_iconst C dL_same_490 ?_
        refine x_callV C hR cb_X6_events cv_X6_events u14_15 (q_events hst R hlow hx19) (a_recvH R.k (by decide)) ⟨_, _, rfl⟩ rfl (Nat.le_of_ble_eq_true rfl) rfl dL_same_491 (by decide) (by show _ ≤ 400 ∧ _ ≤ 2400; omega) (fun E x9 h9 => absurd h9.1 (by intro h; cases h)) (fun r9 x9 h9 => ?_)
        obtain ⟨e9, h9x, rfl, R⟩ := h9
        cases e9
        refine x_iload C dL_same_494 rfl ?_
        refine x_icmp_ne (tgt := 528) C dL_same_496 (by decide) (by first | omega | exact bi_rng _) (by first | omega | exact bi_rng _) (fun h496 => ?_) (fun h496 => ?_)
        ·
          exfalso; omega
        ·
          refine x_aload_n C dL_same_499 rfl rfl ?_
          refine x_iload C dL_same_500 rfl ?_
          refine x_callV C hR cb_X6_sessions cv_X6_sessions u14_20 (q_sessions hst R hlow hx19 hp) (a_recvH R.k (by decide)) ⟨_, _, rfl⟩ rfl (Nat.le_of_ble_eq_true rfl) rfl dL_same_502 (by decide) (by show _ ≤ 400 ∧ _ ≤ 2400; omega) (fun E x9 h9 => absurd h9.1 (by intro h; cases h)) (fun r9 x9 h9 => ?_)
          obtain ⟨e9, h9x, rfl, R⟩ := h9
          cases e9
          refine x_iload C dL_same_505 rfl ?_
          refine x_iconst C dL_same_507 ?_
          refine x_iadd C dL_same_508 ?_
          refine x_icmp_ne (tgt := 528) C dL_same_509 (by decide) (by first | omega | exact bi_rng _) (by first | omega | exact bi_rng _) (fun h509 => ?_) (fun h509 => ?_)
          ·
            exfalso; omega
          ·
            refine x_aload_n C dL_same_512 rfl rfl ?_
            refine x_iload C dL_same_513 rfl ?_
            refine x_iconst C dL_same_515 ?_
            refine x_iconst C dL_same_516 ?_
            refine x_iload C dL_same_517 rfl ?_
            refine x_iconst C dL_same_519 ?_
            refine x_callV C hR cb_X6_counted cv_X6_counted u15_0 (q_counted hst R hlow hx19 (by omega)) (a_recvH R.k (by decide)) ⟨_, _, rfl⟩ rfl (Nat.le_of_ble_eq_true rfl) rfl dL_same_520 (by decide) (by show _ ≤ 400 ∧ _ ≤ 2400; omega) (fun E x9 h9 => absurd h9.1 (by intro h; cases h)) (fun r9 x9 h9 => ?_)
            obtain ⟨e9, h9x, rfl, R⟩ := h9
            cases e9
            refine x_iload C dL_same_523 rfl ?_
            refine x_icmp_eq (tgt := 530) C dL_same_525 (by decide) (by first | omega | exact bi_rng _) (by first | omega | exact bi_rng _) (fun h525 => ?_) (fun h525 => ?_)
            ·
              refine x_aload_n C dL_same_530 rfl rfl ?_
              refine x_iload C dL_same_531 rfl ?_
              refine x_callV C hR cb_X6_groups cv_X6_groups u15_17 (q_groups hst R hlow hx19) (a_recvH R.k (by decide)) ⟨_, _, rfl⟩ rfl (Nat.le_of_ble_eq_true rfl) rfl dL_same_533 (by decide) (by show _ ≤ 400 ∧ _ ≤ 2400; omega) (fun E x9 h9 => absurd h9.1 (by intro h; cases h)) (fun r9 x9 h9 => ?_)
              obtain ⟨e9, h9x, rfl, R⟩ := h9
              cases e9
              refine x_iload C dL_same_536 rfl ?_
              refine x_iconst C dL_same_538 ?_
              refine x_icmp_lt (tgt := 546) C dL_same_539 (by decide) (by first | omega | exact bi_rng _) (by first | omega | exact bi_rng _) (fun h539 => ?_) (fun h539 => ?_)
              ·
                refine x_iconst C dL_same_546 ?_
                refine x_icmp_ne (tgt := 554) C dL_same_547 (by decide) (by first | omega | exact bi_rng _) (by first | omega | exact bi_rng _) (fun h547 => ?_) (fun h547 => ?_)
                ·
                  exfalso; omega
                ·
                  refine x_iconst C dL_same_550 ?_
                  refine x_goto (tgt := 555) C dL_same_551 (by decide) ?_
                  refine x_iret (ty := .boolean) C hQ dL_same_555 rfl (by decide) (by omega) (by omega) ?_
                  exact ⟨rfl, _, rfl, R⟩
              ·
                refine x_iconst C dL_same_542 ?_
                refine x_goto (tgt := 547) C dL_same_543 (by decide) ?_
                refine x_icmp_ne (tgt := 554) C dL_same_547 (by decide) (by first | omega | exact bi_rng _) (by first | omega | exact bi_rng _) (fun h547 => ?_) (fun h547 => ?_)
                ·
                  exfalso; omega
                ·
                  refine x_iconst C dL_same_550 ?_
                  refine x_goto (tgt := 555) C dL_same_551 (by decide) ?_
                  refine x_iret (ty := .boolean) C hQ dL_same_555 rfl (by decide) (by omega) (by omega) ?_
                  exact ⟨rfl, _, rfl, R⟩
            ·
              exfalso; omega
      have K345 : ∀ (h2 : HS) (se2 be2 of2 ins2 : Int), RC ob h2 M → 0 ≤ at1 pl j → SPe M pl j (at1 pl j) se2 be2 of2 ins2 → X φ (LA cy ba (h2, V)) (6 + 6 * j) (36 + 36 * j) 345 [(0, vr (some ob)), (1, vr (some (ba 0))), (2, vr (some (ba 1))), (3, vr (some (ba 2))), (4, vr (some (ba 3))), (5, vr (some (ba 4))), (6, vi (M 2 0)), (7, vi node), (8, vi (M 1 0)), (9, vi (nn node)), (10, vi (j : Int)), (12, vi se2), (13, vi be2), (14, vi of2), (15, vi ins2), (16, vi (ccF M pl j)), (17, vi (at1 pl j))] [] := by
        intro h2 se2 be2 of2 ins2 R hnx hpe
        have hr := hpe.1
        have ht := tmOf_in hM hnx (hpn j).2.1
        have h3e := hX.1 (at1 pl j) hnx (hpn j).2.1
        have hbb := (hL.1 (at1 pl j) hnx (hpn j).2.1).1
        obtain ⟨b4, b5, b6, b7, b8⟩ := id hbb
        have K362 : ∀ of3 : Int, of3 = (if of2 = -1 then M 7 (at1 pl j) else of2) → X φ (LA cy ba (h2, V)) (6 + 6 * j) (36 + 36 * j) 362 [(0, vr (some ob)), (1, vr (some (ba 0))), (2, vr (some (ba 1))), (3, vr (some (ba 2))), (4, vr (some (ba 3))), (5, vr (some (ba 4))), (6, vi (M 2 0)), (7, vi node), (8, vi (M 1 0)), (9, vi (nn node)), (10, vi (j : Int)), (12, vi se2), (13, vi be2), (15, vi ins2), (16, vi (ccF M pl j)), (17, vi (at1 pl j))] [vi of3] := by
          intro of3 hof3
          have hor : -1 ≤ of3 ∧ of3 ≤ 9 := by
            rw [hof3]
            split <;> omega
          have K460 : ∀ (h3 : HS) (is : Int), RC ob h3 M → is = bi (cQ M (at1 pl j)) → X φ (LA cy ba (h3, V)) (8 + 6 * j) (48 + 36 * j) 460 [(0, vr (some ob)), (1, vr (some (ba 0))), (2, vr (some (ba 1))), (3, vr (some (ba 2))), (4, vr (some (ba 3))), (5, vr (some (ba 4))), (6, vi (M 2 0)), (7, vi node), (8, vi (M 1 0)), (9, vi (nn node)), (10, vi (j : Int)), (12, vi se2), (13, vi be2), (14, vi of3), (15, vi (ins2 + 1)), (16, vi (ccF M pl j)), (17, vi (at1 pl j))] [vi is] := by
            intro h3 is R his
            have hcs := ccF_succ (M := M) (pl := pl) (j := j) (by omega)
            have his2 := bi_01 (cQ M (at1 pl j))
            refine x_istore C dL_same_460 (by rw [hn]; exact Nat.le_of_ble_eq_true rfl) ?_
            refine x_iload C dL_same_462 rfl ?_
            refine x_iload C dL_same_464 rfl ?_
            refine x_if_eq (tgt := 473) C dL_same_466 (by decide) (by first | omega | exact bi_rng _) (fun h466 => ?_) (fun h466 => ?_)
            ·
              refine x_iconst C dL_same_473 ?_
              refine x_iadd C dL_same_474 ?_
              refine x_istore C dL_same_475 (by rw [hn]; exact Nat.le_of_ble_eq_true rfl) ?_
              refine x_iinc C dL_same_477 (by rw [hn]; exact Nat.le_of_ble_eq_true rfl) rfl ?_
              refine x_iload C dL_same_480 rfl ?_
              refine x_istore C dL_same_482 (by rw [hn]; exact Nat.le_of_ble_eq_true rfl) ?_
              refine x_goto (tgt := 67) C dL_same_484 (by decide) ?_
              exact X.mono (by omega) (by omega) (X.to (ih (j + 1) (at1 pl j) se2 be2 of3 (ins2 + 1) h3 (by omega) (by omega) R (hpe.next rfl hof3 ⟨by omega, by omega⟩)) (lsc (rfl) (lsc (rfl) (lsc (rfl) (lsc (rfl) (lsc (rfl) (lsc (rfl) (lsc (rfl) (lsc (rfl) (lsc (rfl) (lsc (rfl) (lsc (lkv (by omega)) (lsc (rfl) (lsc (rfl) (lsc (rfl) (lsc (rfl) (lsc (rfl) (lsc (lkv (by rw [hcs, ← his]; omega)) (lsn)))))))))))))))))))
            ·
              refine x_iconst C dL_same_469 ?_
              refine x_goto (tgt := 474) C dL_same_470 (by decide) ?_
              refine x_iadd C dL_same_474 ?_
              refine x_istore C dL_same_475 (by rw [hn]; exact Nat.le_of_ble_eq_true rfl) ?_
              refine x_iinc C dL_same_477 (by rw [hn]; exact Nat.le_of_ble_eq_true rfl) rfl ?_
              refine x_iload C dL_same_480 rfl ?_
              refine x_istore C dL_same_482 (by rw [hn]; exact Nat.le_of_ble_eq_true rfl) ?_
              refine x_goto (tgt := 67) C dL_same_484 (by decide) ?_
              exact X.mono (by omega) (by omega) (X.to (ih (j + 1) (at1 pl j) se2 be2 of3 (ins2 + 1) h3 (by omega) (by omega) R (hpe.next rfl hof3 ⟨by omega, by omega⟩)) (lsc (rfl) (lsc (rfl) (lsc (rfl) (lsc (rfl) (lsc (rfl) (lsc (rfl) (lsc (rfl) (lsc (rfl) (lsc (rfl) (lsc (rfl) (lsc (lkv (by omega)) (lsc (rfl) (lsc (rfl) (lsc (rfl) (lsc (rfl) (lsc (rfl) (lsc (lkv (by rw [hcs, ← his]; omega)) (lsn)))))))))))))))))))
          refine x_istore C dL_same_362 (by rw [hn]; exact Nat.le_of_ble_eq_true rfl) ?_
          refine x_iinc C dL_same_364 (by rw [hn]; exact Nat.le_of_ble_eq_true rfl) rfl ?_
          refine x_aload_n C dL_same_367 rfl rfl ?_
          refine x_iload C dL_same_368 rfl ?_
          refine x_iload C dL_same_370 rfl ?_
          refine x_callV C hR cb_X6_eventAt cv_X6_eventAt u14_2 (q_eventAt hst R hlow hx19 hp (by omega) (by omega)) (a_recvH R.k (by decide)) ⟨_, _, rfl⟩ rfl (Nat.le_of_ble_eq_true rfl) rfl dL_same_372 (by decide) (by show _ ≤ 400 ∧ _ ≤ 2400; omega) (fun E x9 h9 => absurd h9.1 (by intro h; cases h)) (fun r9 x9 h9 => ?_)
          obtain ⟨e9, h9x, rfl, R⟩ := h9
          cases e9
          refine x_iload C dL_same_375 rfl ?_
          refine x_iconst C dL_same_377 ?_
          refine x_iadd C dL_same_378 ?_
          refine x_icmp_ne (tgt := 400) C dL_same_379 (by decide) (by first | omega | exact bi_rng _) (by first | omega | exact bi_rng _) (fun h379 => ?_) (fun h379 => ?_)
          ·
            exfalso; omega
          ·
            refine x_aload_n C dL_same_382 rfl rfl ?_
            refine x_iload C dL_same_383 rfl ?_
            refine x_iconst C dL_same_385 ?_
            refine x_iadd C dL_same_386 ?_
            refine x_callV C hR cb_X6_time cv_X6_time u14_7 (q_time (e := at1 pl j) (x := at1 pl j + 1) hst R (by omega) (by omega) (hX.1 _ (by omega) (by omega)) (by omega)) (a_recvH R.k (by decide)) ⟨_, _, rfl⟩ rfl (Nat.le_of_ble_eq_true rfl) rfl dL_same_387 (by decide) (by show _ ≤ 400 ∧ _ ≤ 2400; omega) (fun E x9 h9 => absurd h9.1 (by intro h; cases h)) (fun r9 x9 h9 => ?_)
            obtain ⟨e9, h9x, rfl, R⟩ := h9
            cases e9
            refine x_aload_n C dL_same_390 rfl rfl ?_
            refine x_aload_n C dL_same_391 rfl rfl ?_
            refine x_iload C dL_same_392 rfl ?_
            refine x_callS C hR cb_L_time u12_10 u12_9 (k_L_time hst hL hM hN (by omega) (by omega)) rfl (Nat.le_of_ble_eq_true rfl) rfl dL_same_394 (by decide) (by show _ ≤ 400 ∧ _ ≤ 2400; omega) (fun E x9 h9 => absurd h9.1 (by intro h; cases h)) (fun r9 x9 h9 => ?_)
            obtain ⟨e9, rfl⟩ := h9
            cases e9
            refine x_icmp_eq (tgt := 402) C dL_same_397 (by decide) (by first | omega | exact bi_rng _) (by first | omega | exact bi_rng _) (fun h397 => ?_) (fun h397 => ?_)
            ·
              refine x_aload_n C dL_same_402 rfl rfl ?_
              refine x_iload C dL_same_403 rfl ?_
              refine x_iconst C dL_same_405 ?_
              refine x_callS C hR cb_L_part u3_21 u3_20 (kp2 hst hL hN (by omega) (by omega)) rfl (Nat.le_of_ble_eq_true rfl) rfl dL_same_406 (by decide) (by show _ ≤ 400 ∧ _ ≤ 2400; omega) (fun E x9 h9 => absurd h9.1 (by intro h; cases h)) (fun r9 x9 h9 => ?_)
              obtain ⟨e9, rfl⟩ := h9
              cases e9
              refine x_iconst C dL_same_409 ?_
              refine x_icmp_ne (tgt := 459) C dL_same_410 (by decide) (by first | omega | exact bi_rng _) (by first | omega | exact bi_rng _) (fun h410 => ?_) (fun h410 => ?_)
              ·
                refine x_iconst C dL_same_459 ?_
                exact X.mono (by omega) (by omega) (X.to (K460 h9x 0 R (by simp only [bi]; split <;> omega)) (lsc (rfl) (lsc (rfl) (lsc (rfl) (lsc (rfl) (lsc (rfl) (lsc (rfl) (lsc (rfl) (lsc (rfl) (lsc (rfl) (lsc (rfl) (lsc (rfl) (lsc (rfl) (lsc (rfl) (lsc (rfl) (lsc (rfl) (lsc (rfl) (lsc (rfl) (lsn)))))))))))))))))))
              ·
                refine x_aload_n C dL_same_413 rfl rfl ?_
                refine x_aload_n C dL_same_414 rfl rfl ?_
                refine x_iload C dL_same_415 rfl ?_
                refine x_callS C hR cb_L_time u12_10 u12_9 (k_L_time hst hL hM hN (by omega) (by omega)) rfl (Nat.le_of_ble_eq_true rfl) rfl dL_same_417 (by decide) (by show _ ≤ 400 ∧ _ ≤ 2400; omega) (fun E x9 h9 => absurd h9.1 (by intro h; cases h)) (fun r9 x9 h9 => ?_)
                obtain ⟨e9, rfl⟩ := h9
                cases e9
                refine x_iload C dL_same_420 rfl ?_
                refine x_icmp_gt (tgt := 459) C dL_same_422 (by decide) (by first | omega | exact bi_rng _) (by first | omega | exact bi_rng _) (fun h422 => ?_) (fun h422 => ?_)
                ·
                  refine x_iconst C dL_same_459 ?_
                  exact X.mono (by omega) (by omega) (X.to (K460 h9x 0 R (by simp only [bi]; split <;> omega)) (lsc (rfl) (lsc (rfl) (lsc (rfl) (lsc (rfl) (lsc (rfl) (lsc (rfl) (lsc (rfl) (lsc (rfl) (lsc (rfl) (lsc (rfl) (lsc (rfl) (lsc (rfl) (lsc (rfl) (lsc (rfl) (lsc (rfl) (lsc (rfl) (lsc (rfl) (lsn)))))))))))))))))))
                ·
                  refine x_aload_n C dL_same_425 rfl rfl ?_
                  refine x_aload_n C dL_same_426 rfl rfl ?_
                  refine x_iload C dL_same_427 rfl ?_
                  refine x_callS C hR cb_L_time u12_10 u12_9 (k_L_time hst hL hM hN (by omega) (by omega)) rfl (Nat.le_of_ble_eq_true rfl) rfl dL_same_429 (by decide) (by show _ ≤ 400 ∧ _ ≤ 2400; omega) (fun E x9 h9 => absurd h9.1 (by intro h; cases h)) (fun r9 x9 h9 => ?_)
                  obtain ⟨e9, rfl⟩ := h9
                  cases e9
                  refine x_iload C dL_same_432 rfl ?_
                  refine x_sipush C dL_same_434 (by decide) ?_
                  refine x_isub C dL_same_437 ?_
                  refine x_icmp_le (tgt := 459) C dL_same_438 (by decide) (by first | omega | exact bi_rng _) (by first | omega | exact bi_rng _) (fun h438 => ?_) (fun h438 => ?_)
                  ·
                    refine x_iconst C dL_same_459 ?_
                    exact X.mono (by omega) (by omega) (X.to (K460 h9x 0 R (by simp only [bi]; split <;> omega)) (lsc (rfl) (lsc (rfl) (lsc (rfl) (lsc (rfl) (lsc (rfl) (lsc (rfl) (lsc (rfl) (lsc (rfl) (lsc (rfl) (lsc (rfl) (lsc (rfl) (lsc (rfl) (lsc (rfl) (lsc (rfl) (lsc (rfl) (lsc (rfl) (lsc (rfl) (lsn)))))))))))))))))))
                  ·
                    refine x_aload_n C dL_same_441 rfl rfl ?_
                    refine x_aload_n C dL_same_442 rfl rfl ?_
                    refine x_aload C dL_same_443 rfl ?_
                    refine x_aload C dL_same_445 rfl ?_
                    refine x_iload C dL_same_447 rfl ?_
                    refine x_callS C hR cb_L_counts u14_13 u14_12 (k_L_counts hst hL hM hN (by omega) (by omega)) rfl (Nat.le_of_ble_eq_true rfl) rfl dL_same_449 (by decide) (by show _ ≤ 400 ∧ _ ≤ 2400; omega) (fun E x9 h9 => absurd h9.1 (by intro h; cases h)) (fun r9 x9 h9 => ?_)
                    obtain ⟨e9, rfl⟩ := h9
                    cases e9
                    refine x_if_eq (tgt := 459) C dL_same_452 (by decide) (by first | omega | exact bi_rng _) (fun h452 => ?_) (fun h452 => ?_)
                    ·
                      replace h452 := bi_eq0.mp h452
                      refine x_iconst C dL_same_459 ?_
                      exact X.mono (by omega) (by omega) (X.to (K460 h9x 0 R (by simp only [bi]; split <;> omega)) (lsc (rfl) (lsc (rfl) (lsc (rfl) (lsc (rfl) (lsc (rfl) (lsc (rfl) (lsc (rfl) (lsc (rfl) (lsc (rfl) (lsc (rfl) (lsc (rfl) (lsc (rfl) (lsc (rfl) (lsc (rfl) (lsc (rfl) (lsc (rfl) (lsc (rfl) (lsn)))))))))))))))))))
                    ·
                      replace h452 := bi_ne0.mp h452
                      refine x_iconst C dL_same_455 ?_
                      refine x_goto (tgt := 460) C dL_same_456 (by decide) ?_
                      exact X.mono (by omega) (by omega) (X.to (K460 h9x 1 R (by simp only [bi]; split <;> omega)) (lsc (rfl) (lsc (rfl) (lsc (rfl) (lsc (rfl) (lsc (rfl) (lsc (rfl) (lsc (rfl) (lsc (rfl) (lsc (rfl) (lsc (rfl) (lsc (rfl) (lsc (rfl) (lsc (rfl) (lsc (rfl) (lsc (rfl) (lsc (rfl) (lsc (rfl) (lsn)))))))))))))))))))
            ·
              exfalso; omega
        refine x_iload C dL_same_345 rfl ?_
        refine x_if_ge (tgt := 360) C dL_same_347 (by decide) (by first | omega | exact bi_rng _) (fun h347 => ?_) (fun h347 => ?_)
        ·
          refine x_iload C dL_same_360 rfl ?_
          exact X.mono (by omega) (by omega) (X.to (K362 _ (by first | rw [if_pos (by omega)] | rw [if_neg (by omega)])) (lsc (rfl) (lsc (rfl) (lsc (rfl) (lsc (rfl) (lsc (rfl) (lsc (rfl) (lsc (rfl) (lsc (rfl) (lsc (rfl) (lsc (rfl) (lsc (rfl) (lsc (rfl) (lsc (rfl) (lsc (rfl) (lsc (rfl) (lsc (rfl) (lsn))))))))))))))))))
        ·
          refine x_aload_n C dL_same_350 rfl rfl ?_
          refine x_iload C dL_same_351 rfl ?_
          refine x_iconst C dL_same_353 ?_
          refine x_callS C hR cb_L_part u3_21 u3_20 (kp3 hst hL hN (by omega) (by omega)) rfl (Nat.le_of_ble_eq_true rfl) rfl dL_same_354 (by decide) (by show _ ≤ 400 ∧ _ ≤ 2400; omega) (fun E x9 h9 => absurd h9.1 (by intro h; cases h)) (fun r9 x9 h9 => ?_)
          obtain ⟨e9, rfl⟩ := h9
          cases e9
          refine x_goto (tgt := 362) C dL_same_357 (by decide) ?_
          exact X.mono (by omega) (by omega) (X.to (K362 _ (by first | rw [if_pos (by omega)] | rw [if_neg (by omega)])) (lsc (rfl) (lsc (rfl) (lsc (rfl) (lsc (rfl) (lsc (rfl) (lsc (rfl) (lsc (rfl) (lsc (rfl) (lsc (rfl) (lsc (rfl) (lsc (rfl) (lsc (rfl) (lsc (rfl) (lsc (rfl) (lsc (rfl) (lsc (rfl) (lsn))))))))))))))))))
      have K314 : ∀ (h2 : HS) (cut : Int), RC ob h2 M → (cut = 1 ∧ (at1 pl j < 0 ∨ la < 0 ∨ cts M la (at1 pl j) of)) ∨ (cut = 0 ∧ ¬ (at1 pl j < 0 ∨ la < 0 ∨ cts M la (at1 pl j) of)) → X φ (LA cy ba (h2, V)) (6 + 6 * j) (36 + 36 * j) 314 [(0, vr (some ob)), (1, vr (some (ba 0))), (2, vr (some (ba 1))), (3, vr (some (ba 2))), (4, vr (some (ba 3))), (5, vr (some (ba 4))), (6, vi (M 2 0)), (7, vi node), (8, vi (M 1 0)), (9, vi (nn node)), (10, vi (j : Int)), (11, vi la), (12, vi se), (13, vi be), (14, vi of), (15, vi ins), (16, vi (ccF M pl j)), (17, vi (at1 pl j)), (18, vi cut)] [] := by
        intro h2 cut R hcut
        refine x_iload C dL_same_314 rfl ?_
        refine x_if_ge (tgt := 322) C dL_same_316 (by decide) (by first | omega | exact bi_rng _) (fun h316 => ?_) (fun h316 => ?_)
        ·
          refine x_iload C dL_same_322 rfl ?_
          refine x_if_eq (tgt := 345) C dL_same_324 (by decide) (by first | omega | exact bi_rng _) (fun h324 => ?_) (fun h324 => ?_)
          ·
            have hcc := (hcut.resolve_left (fun g => by omega)).2
            exact X.mono (by omega) (by omega) (X.to (K345 h2 se be of ins R (by omega) (hI.go (by omega) (by omega) (fun g => hcc (Or.inr (Or.inr g))))) (lsc (rfl) (lsc (rfl) (lsc (rfl) (lsc (rfl) (lsc (rfl) (lsc (rfl) (lsc (rfl) (lsc (rfl) (lsc (rfl) (lsc (rfl) (lsc (rfl) (lsc (rfl) (lsc (rfl) (lsc (rfl) (lsc (rfl) (lsc (rfl) (lsc (rfl) (lsn)))))))))))))))))))
          ·
            refine x_iinc C dL_same_327 (by rw [hn]; exact Nat.le_of_ble_eq_true rfl) rfl ?_
            refine x_aload_n C dL_same_330 rfl rfl ?_
            refine x_aload_n C dL_same_331 rfl rfl ?_
            refine x_iload C dL_same_332 rfl ?_
            refine x_callS C hR cb_L_time u12_10 u12_9 (k_L_time hst hL hM hN (by omega) (by omega)) rfl (Nat.le_of_ble_eq_true rfl) rfl dL_same_334 (by decide) (by show _ ≤ 400 ∧ _ ≤ 2400; omega) (fun E x9 h9 => absurd h9.1 (by intro h; cases h)) (fun r9 x9 h9 => ?_)
            obtain ⟨e9, rfl⟩ := h9
            cases e9
            refine x_istore C dL_same_337 (by rw [hn]; exact Nat.le_of_ble_eq_true rfl) ?_
            refine x_iconst C dL_same_339 ?_
            refine x_istore C dL_same_340 (by rw [hn]; exact Nat.le_of_ble_eq_true rfl) ?_
            refine x_iconst C dL_same_342 ?_
            refine x_istore C dL_same_343 (by rw [hn]; exact Nat.le_of_ble_eq_true rfl) ?_
            have hcc := hcut.resolve_right (fun g => by omega)
            exact X.mono (by omega) (by omega) (X.to (K345 h2 (se + 1) (tmOf M (at1 pl j)) (-1) 0 R (by omega) (hI.cut (by omega) (hcc.2.resolve_left (by omega)) (by have := tmOf_in hM (show 0 ≤ at1 pl j by omega) (by omega); omega) (by omega))) (lsc (rfl) (lsc (rfl) (lsc (rfl) (lsc (rfl) (lsc (rfl) (lsc (rfl) (lsc (rfl) (lsc (rfl) (lsc (rfl) (lsc (rfl) (lsc (rfl) (lsc (rfl) (lsc (rfl) (lsc (rfl) (lsc (rfl) (lsc (rfl) (lsc (rfl) (lsn)))))))))))))))))))
        ·
          refine x_goto (tgt := 487) C dL_same_319 (by decide) ?_
          exact X.mono (by omega) (by omega) (X.to (K487 h2 R (by omega)) (lsc (rfl) (lsc (rfl) (lsc (rfl) (lsc (rfl) (lsc (rfl) (lsc (rfl) (lsc (rfl) (lsc (rfl) (lsc (rfl) (lsc (rfl) (lsc (rfl) (lsc (rfl) (lsc (rfl) (lsn)))))))))))))))
      have K236 : ∀ cut : Int, (cut = 1 ∧ (at1 pl j < 0 ∨ la < 0 ∨ cts M la (at1 pl j) of)) ∨ (cut = 0 ∧ ¬ (at1 pl j < 0 ∨ la < 0 ∨ cts M la (at1 pl j) of)) → X φ (LA cy ba (h1, V)) (2 + 6 * j) (12 + 36 * j) 236 [(0, vr (some ob)), (1, vr (some (ba 0))), (2, vr (some (ba 1))), (3, vr (some (ba 2))), (4, vr (some (ba 3))), (5, vr (some (ba 4))), (6, vi (M 2 0)), (7, vi node), (8, vi (M 1 0)), (9, vi (nn node)), (10, vi (j : Int)), (11, vi la), (12, vi se), (13, vi be), (14, vi of), (15, vi ins), (16, vi (ccF M pl j)), (17, vi (at1 pl j))] [vi cut] := by
        intro cut hcut
        refine x_istore C dL_same_236 (by rw [hn]; exact Nat.le_of_ble_eq_true rfl) ?_
        refine x_iload C dL_same_238 rfl ?_
        refine x_if_eq (tgt := 314) C dL_same_240 (by decide) (by first | omega | exact bi_rng _) (fun h240 => ?_) (fun h240 => ?_)
        ·
          exact X.mono (by omega) (by omega) (X.to (K314 _ _ R hcut) (lsc (rfl) (lsc (rfl) (lsc (rfl) (lsc (rfl) (lsc (rfl) (lsc (rfl) (lsc (rfl) (lsc (rfl) (lsc (rfl) (lsc (rfl) (lsc (rfl) (lsc (rfl) (lsc (rfl) (lsc (rfl) (lsc (rfl) (lsc (rfl) (lsc (rfl) (lsc (rfl) (lsc (rfl) (lsn)))))))))))))))))))))
        ·
          refine x_iload C dL_same_243 rfl ?_
          refine x_if_lt (tgt := 314) C dL_same_245 (by decide) (by first | omega | exact bi_rng _) (fun h245 => ?_) (fun h245 => ?_)
          ·
            exact X.mono (by omega) (by omega) (X.to (K314 _ _ R hcut) (lsc (rfl) (lsc (rfl) (lsc (rfl) (lsc (rfl) (lsc (rfl) (lsc (rfl) (lsc (rfl) (lsc (rfl) (lsc (rfl) (lsc (rfl) (lsc (rfl) (lsc (rfl) (lsc (rfl) (lsc (rfl) (lsc (rfl) (lsc (rfl) (lsc (rfl) (lsc (rfl) (lsc (rfl) (lsn)))))))))))))))))))))
          ·
            have hcc := (hcut.resolve_right (fun g => by omega)).2
            have hend : at1 pl j = -1 ∧ pl.length ≤ j ∨ (j < pl.length ∧ cts M la (at1 pl j) of) := by
              rcases hcc with g | g | g
              · exact Or.inl ⟨by omega, by omega⟩
              · omega
              · by_cases hz : at1 pl j < 0
                · exact Or.inl ⟨by omega, by omega⟩
                · exact Or.inr ⟨by omega, g⟩
            obtain ⟨done, fs, hsg, hse, hbe, hj0⟩ := hI.seg (by omega) hend
            have t2 := tmOf_in hM (show 0 ≤ la by omega) (by omega)
            refine x_aload_n C dL_same_248 rfl rfl ?_
            refine x_iload C dL_same_249 rfl ?_
            refine x_iload C dL_same_251 rfl ?_
            refine x_iconst C dL_same_253 ?_
            refine x_callV C hR cb_X6_session cv_X6_session u12_12 (q_session0 hst R hlow hx19 hp hsg hse (by omega)) (a_recvH R.k (by decide)) ⟨_, _, rfl⟩ rfl (Nat.le_of_ble_eq_true rfl) rfl dL_same_254 (by decide) (by show _ ≤ 400 ∧ _ ≤ 2400; omega) (fun E x9 h9 => absurd h9.1 (by intro h; cases h)) (fun r9 x9 h9 => ?_)
            obtain ⟨e9, h9x, rfl, R⟩ := h9
            cases e9
            refine x_iload C dL_same_257 rfl ?_
            refine x_icmp_ne (tgt := 312) C dL_same_259 (by decide) (by first | omega | exact bi_rng _) (by first | omega | exact bi_rng _) (fun h259 => ?_) (fun h259 => ?_)
            ·
              exfalso; omega
            ·
              refine x_aload_n C dL_same_262 rfl rfl ?_
              refine x_iload C dL_same_263 rfl ?_
              refine x_iload C dL_same_265 rfl ?_
              refine x_iconst C dL_same_267 ?_
              refine x_callV C hR cb_X6_session cv_X6_session u12_12 (q_session1 hst R hlow hx19 hp hsg hse (by omega)) (a_recvH R.k (by decide)) ⟨_, _, rfl⟩ rfl (Nat.le_of_ble_eq_true rfl) rfl dL_same_268 (by decide) (by show _ ≤ 400 ∧ _ ≤ 2400; omega) (fun E x9 h9 => absurd h9.1 (by intro h; cases h)) (fun r9 x9 h9 => ?_)
              obtain ⟨e9, h9x, rfl, R⟩ := h9
              cases e9
              refine x_aload_n C dL_same_271 rfl rfl ?_
              refine x_aload_n C dL_same_272 rfl rfl ?_
              refine x_iload C dL_same_273 rfl ?_
              refine x_callS C hR cb_L_time u12_10 u12_9 (k_L_time hst hL hM hN (by omega) (by omega)) rfl (Nat.le_of_ble_eq_true rfl) rfl dL_same_275 (by decide) (by show _ ≤ 400 ∧ _ ≤ 2400; omega) (fun E x9 h9 => absurd h9.1 (by intro h; cases h)) (fun r9 x9 h9 => ?_)
              obtain ⟨e9, rfl⟩ := h9
              cases e9
              refine x_iload C dL_same_278 rfl ?_
              refine x_isub C dL_same_280 ?_
              refine x_icmp_ne (tgt := 312) C dL_same_281 (by decide) (by first | omega | exact bi_rng _) (by first | omega | exact bi_rng _) (fun h281 => ?_) (fun h281 => ?_)
              ·
                exfalso; omega
              ·
                refine x_aload_n C dL_same_284 rfl rfl ?_
                refine x_iload C dL_same_285 rfl ?_
                refine x_iload C dL_same_287 rfl ?_
                refine x_iconst C dL_same_289 ?_
                refine x_callV C hR cb_X6_session cv_X6_session u12_12 (q_session2 hst R hlow hx19 hp hsg hse (by omega)) (a_recvH R.k (by decide)) ⟨_, _, rfl⟩ rfl (Nat.le_of_ble_eq_true rfl) rfl dL_same_290 (by decide) (by show _ ≤ 400 ∧ _ ≤ 2400; omega) (fun E x9 h9 => absurd h9.1 (by intro h; cases h)) (fun r9 x9 h9 => ?_)
                obtain ⟨e9, h9x, rfl, R⟩ := h9
                cases e9
                refine x_iload C dL_same_293 rfl ?_
                refine x_icmp_ne (tgt := 312) C dL_same_295 (by decide) (by first | omega | exact bi_rng _) (by first | omega | exact bi_rng _) (fun h295 => ?_) (fun h295 => ?_)
                ·
                  exfalso; omega
                ·
                  refine x_aload_n C dL_same_298 rfl rfl ?_
                  refine x_iload C dL_same_299 rfl ?_
                  refine x_iload C dL_same_301 rfl ?_
                  refine x_iconst C dL_same_303 ?_
                  refine x_callV C hR cb_X6_session cv_X6_session u12_12 (q_session3 hst R hlow hx19 hp hsg hse (by omega)) (a_recvH R.k (by decide)) ⟨_, _, rfl⟩ rfl (Nat.le_of_ble_eq_true rfl) rfl dL_same_304 (by decide) (by show _ ≤ 400 ∧ _ ≤ 2400; omega) (fun E x9 h9 => absurd h9.1 (by intro h; cases h)) (fun r9 x9 h9 => ?_)
                  obtain ⟨e9, h9x, rfl, R⟩ := h9
                  cases e9
                  refine x_iload C dL_same_307 rfl ?_
                  refine x_icmp_eq (tgt := 314) C dL_same_309 (by decide) (by first | omega | exact bi_rng _) (by first | omega | exact bi_rng _) (fun h309 => ?_) (fun h309 => ?_)
                  ·
                    exact X.mono (by omega) (by omega) (X.to (K314 _ _ R hcut) (lsc (rfl) (lsc (rfl) (lsc (rfl) (lsc (rfl) (lsc (rfl) (lsc (rfl) (lsc (rfl) (lsc (rfl) (lsc (rfl) (lsc (rfl) (lsc (rfl) (lsc (rfl) (lsc (rfl) (lsc (rfl) (lsc (rfl) (lsc (rfl) (lsc (rfl) (lsc (rfl) (lsc (rfl) (lsn)))))))))))))))))))))
                  ·
                    exfalso; omega
      have K149 : X φ (LA cy ba (h1, V)) (2 + 6 * j) (12 + 36 * j) 149 [(0, vr (some ob)), (1, vr (some (ba 0))), (2, vr (some (ba 1))), (3, vr (some (ba 2))), (4, vr (some (ba 3))), (5, vr (some (ba 4))), (6, vi (M 2 0)), (7, vi node), (8, vi (M 1 0)), (9, vi (nn node)), (10, vi (j : Int)), (11, vi la), (12, vi se), (13, vi be), (14, vi of), (15, vi ins), (16, vi (ccF M pl j)), (17, vi (at1 pl j))] [] := by
        refine x_iload C dL_same_149 rfl ?_
        refine x_if_lt (tgt := 231) C dL_same_151 (by decide) (by first | omega | exact bi_rng _) (fun h151 => ?_) (fun h151 => ?_)
        ·
          refine x_iconst C dL_same_231 ?_
          refine x_goto (tgt := 236) C dL_same_232 (by decide) ?_
          exact X.mono (by omega) (by omega) (X.to (K236 1 (Or.inl ⟨rfl, by omega⟩)) (lsc (rfl) (lsc (rfl) (lsc (rfl) (lsc (rfl) (lsc (rfl) (lsc (rfl) (lsc (rfl) (lsc (rfl) (lsc (rfl) (lsc (rfl) (lsc (rfl) (lsc (rfl) (lsc (rfl) (lsc (rfl) (lsc (rfl) (lsc (rfl) (lsc (rfl) (lsc (rfl) (lsn))))))))))))))))))))
        ·
          refine x_iload C dL_same_154 rfl ?_
          refine x_if_lt (tgt := 231) C dL_same_156 (by decide) (by first | omega | exact bi_rng _) (fun h156 => ?_) (fun h156 => ?_)
          ·
            refine x_iconst C dL_same_231 ?_
            refine x_goto (tgt := 236) C dL_same_232 (by decide) ?_
            exact X.mono (by omega) (by omega) (X.to (K236 1 (Or.inl ⟨rfl, by omega⟩)) (lsc (rfl) (lsc (rfl) (lsc (rfl) (lsc (rfl) (lsc (rfl) (lsc (rfl) (lsc (rfl) (lsc (rfl) (lsc (rfl) (lsc (rfl) (lsc (rfl) (lsc (rfl) (lsc (rfl) (lsc (rfl) (lsc (rfl) (lsc (rfl) (lsc (rfl) (lsc (rfl) (lsn))))))))))))))))))))
          ·
            have t1 := tmOf_in hM (show 0 ≤ at1 pl j by omega) (by omega)
            have t2 := tmOf_in hM (show 0 ≤ la by omega) (by omega)
            have t3 := tdiv_in t1.1 (by omega)
            have t4 := tdiv_in t2.1 (by omega)
            have hbb := (hL.1 (at1 pl j) (by omega) (by omega)).1
            obtain ⟨b4, b5, b6, b7, b8⟩ := id hbb
            refine x_aload_n C dL_same_159 rfl rfl ?_
            refine x_aload_n C dL_same_160 rfl rfl ?_
            refine x_iload C dL_same_161 rfl ?_
            refine x_callS C hR cb_L_time u12_10 u12_9 (k_L_time hst hL hM hN (by omega) (by omega)) rfl (Nat.le_of_ble_eq_true rfl) rfl dL_same_163 (by decide) (by show _ ≤ 400 ∧ _ ≤ 2400; omega) (fun E x9 h9 => absurd h9.1 (by intro h; cases h)) (fun r9 x9 h9 => ?_)
            obtain ⟨e9, rfl⟩ := h9
            cases e9
            refine x_aload_n C dL_same_166 rfl rfl ?_
            refine x_aload_n C dL_same_167 rfl rfl ?_
            refine x_iload C dL_same_168 rfl ?_
            refine x_callS C hR cb_L_time u12_10 u12_9 (k_L_time hst hL hM hN (by omega) (by omega)) rfl (Nat.le_of_ble_eq_true rfl) rfl dL_same_170 (by decide) (by show _ ≤ 400 ∧ _ ≤ 2400; omega) (fun E x9 h9 => absurd h9.1 (by intro h; cases h)) (fun r9 x9 h9 => ?_)
            obtain ⟨e9, rfl⟩ := h9
            cases e9
            refine x_isub C dL_same_173 ?_
            refine x_bipush C dL_same_174 (by decide) ?_
            refine x_icmp_gt (tgt := 231) C dL_same_176 (by decide) (by first | omega | exact bi_rng _) (by first | omega | exact bi_rng _) (fun h176 => ?_) (fun h176 => ?_)
            ·
              refine x_iconst C dL_same_231 ?_
              refine x_goto (tgt := 236) C dL_same_232 (by decide) ?_
              exact X.mono (by omega) (by omega) (X.to (K236 1 (Or.inl ⟨rfl, by omega⟩)) (lsc (rfl) (lsc (rfl) (lsc (rfl) (lsc (rfl) (lsc (rfl) (lsc (rfl) (lsc (rfl) (lsc (rfl) (lsc (rfl) (lsc (rfl) (lsc (rfl) (lsc (rfl) (lsc (rfl) (lsc (rfl) (lsc (rfl) (lsc (rfl) (lsc (rfl) (lsc (rfl) (lsn))))))))))))))))))))
            ·
              refine x_aload_n C dL_same_179 rfl rfl ?_
              refine x_aload_n C dL_same_180 rfl rfl ?_
              refine x_iload C dL_same_181 rfl ?_
              refine x_callS C hR cb_L_time u12_10 u12_9 (k_L_time hst hL hM hN (by omega) (by omega)) rfl (Nat.le_of_ble_eq_true rfl) rfl dL_same_183 (by decide) (by show _ ≤ 400 ∧ _ ≤ 2400; omega) (fun E x9 h9 => absurd h9.1 (by intro h; cases h)) (fun r9 x9 h9 => ?_)
              obtain ⟨e9, rfl⟩ := h9
              cases e9
              refine x_sipush C dL_same_186 (by decide) ?_
              refine x_idiv C dL_same_189 (by first | omega | exact bi_rng _) (by first | omega | exact bi_rng _) ?_
              refine x_aload_n C dL_same_190 rfl rfl ?_
              refine x_aload_n C dL_same_191 rfl rfl ?_
              refine x_iload C dL_same_192 rfl ?_
              refine x_callS C hR cb_L_time u12_10 u12_9 (k_L_time hst hL hM hN (by omega) (by omega)) rfl (Nat.le_of_ble_eq_true rfl) rfl dL_same_194 (by decide) (by show _ ≤ 400 ∧ _ ≤ 2400; omega) (fun E x9 h9 => absurd h9.1 (by intro h; cases h)) (fun r9 x9 h9 => ?_)
              obtain ⟨e9, rfl⟩ := h9
              cases e9
              refine x_sipush C dL_same_197 (by decide) ?_
              refine x_idiv C dL_same_200 (by first | omega | exact bi_rng _) (by first | omega | exact bi_rng _) ?_
              refine x_icmp_ne (tgt := 231) C dL_same_201 (by decide) (by first | omega | exact bi_rng _) (by first | omega | exact bi_rng _) (fun h201 => ?_) (fun h201 => ?_)
              ·
                refine x_iconst C dL_same_231 ?_
                refine x_goto (tgt := 236) C dL_same_232 (by decide) ?_
                exact X.mono (by omega) (by omega) (X.to (K236 1 (Or.inl ⟨rfl, by omega⟩)) (lsc (rfl) (lsc (rfl) (lsc (rfl) (lsc (rfl) (lsc (rfl) (lsc (rfl) (lsc (rfl) (lsc (rfl) (lsc (rfl) (lsc (rfl) (lsc (rfl) (lsc (rfl) (lsc (rfl) (lsc (rfl) (lsc (rfl) (lsc (rfl) (lsc (rfl) (lsc (rfl) (lsn))))))))))))))))))))
              ·
                refine x_iload C dL_same_204 rfl ?_
                refine x_if_lt (tgt := 235) C dL_same_206 (by decide) (by first | omega | exact bi_rng _) (fun h206 => ?_) (fun h206 => ?_)
                ·
                  refine x_iconst C dL_same_235 ?_
                  exact X.mono (by omega) (by omega) (X.to (K236 0 (Or.inr ⟨rfl, by omega⟩)) (lsc (rfl) (lsc (rfl) (lsc (rfl) (lsc (rfl) (lsc (rfl) (lsc (rfl) (lsc (rfl) (lsc (rfl) (lsc (rfl) (lsc (rfl) (lsc (rfl) (lsc (rfl) (lsc (rfl) (lsc (rfl) (lsc (rfl) (lsc (rfl) (lsc (rfl) (lsc (rfl) (lsn))))))))))))))))))))
                ·
                  refine x_aload_n C dL_same_209 rfl rfl ?_
                  refine x_iload C dL_same_210 rfl ?_
                  refine x_iconst C dL_same_212 ?_
                  refine x_callS C hR cb_L_part u3_21 u3_20 (kp3 hst hL hN (by omega) (by omega)) rfl (Nat.le_of_ble_eq_true rfl) rfl dL_same_213 (by decide) (by show _ ≤ 400 ∧ _ ≤ 2400; omega) (fun E x9 h9 => absurd h9.1 (by intro h; cases h)) (fun r9 x9 h9 => ?_)
                  obtain ⟨e9, rfl⟩ := h9
                  cases e9
                  refine x_if_lt (tgt := 235) C dL_same_216 (by decide) (by first | omega | exact bi_rng _) (fun h216 => ?_) (fun h216 => ?_)
                  ·
                    refine x_iconst C dL_same_235 ?_
                    exact X.mono (by omega) (by omega) (X.to (K236 0 (Or.inr ⟨rfl, by omega⟩)) (lsc (rfl) (lsc (rfl) (lsc (rfl) (lsc (rfl) (lsc (rfl) (lsc (rfl) (lsc (rfl) (lsc (rfl) (lsc (rfl) (lsc (rfl) (lsc (rfl) (lsc (rfl) (lsc (rfl) (lsc (rfl) (lsc (rfl) (lsc (rfl) (lsc (rfl) (lsc (rfl) (lsn))))))))))))))))))))
                  ·
                    refine x_aload_n C dL_same_219 rfl rfl ?_
                    refine x_iload C dL_same_220 rfl ?_
                    refine x_iconst C dL_same_222 ?_
                    refine x_callS C hR cb_L_part u3_21 u3_20 (kp3 hst hL hN (by omega) (by omega)) rfl (Nat.le_of_ble_eq_true rfl) rfl dL_same_223 (by decide) (by show _ ≤ 400 ∧ _ ≤ 2400; omega) (fun E x9 h9 => absurd h9.1 (by intro h; cases h)) (fun r9 x9 h9 => ?_)
                    obtain ⟨e9, rfl⟩ := h9
                    cases e9
                    refine x_iload C dL_same_226 rfl ?_
                    refine x_icmp_eq (tgt := 235) C dL_same_228 (by decide) (by first | omega | exact bi_rng _) (by first | omega | exact bi_rng _) (fun h228 => ?_) (fun h228 => ?_)
                    ·
                      refine x_iconst C dL_same_235 ?_
                      exact X.mono (by omega) (by omega) (X.to (K236 0 (Or.inr ⟨rfl, by omega⟩)) (lsc (rfl) (lsc (rfl) (lsc (rfl) (lsc (rfl) (lsc (rfl) (lsc (rfl) (lsc (rfl) (lsc (rfl) (lsc (rfl) (lsc (rfl) (lsc (rfl) (lsc (rfl) (lsc (rfl) (lsc (rfl) (lsc (rfl) (lsc (rfl) (lsc (rfl) (lsc (rfl) (lsn))))))))))))))))))))
                    ·
                      refine x_iconst C dL_same_231 ?_
                      refine x_goto (tgt := 236) C dL_same_232 (by decide) ?_
                      exact X.mono (by omega) (by omega) (X.to (K236 1 (Or.inl ⟨rfl, by omega⟩)) (lsc (rfl) (lsc (rfl) (lsc (rfl) (lsc (rfl) (lsc (rfl) (lsc (rfl) (lsc (rfl) (lsc (rfl) (lsc (rfl) (lsc (rfl) (lsc (rfl) (lsc (rfl) (lsc (rfl) (lsc (rfl) (lsc (rfl) (lsc (rfl) (lsc (rfl) (lsc (rfl) (lsn))))))))))))))))))))
      have inner : ∀ fi i : Nat, (i : Int) ≤ M 2 0 → M 2 0 - i < fi → X φ (LA cy ba (h1, V)) (2 + 6 * j) (12 + 36 * j) 73 [(0, vr (some ob)), (1, vr (some (ba 0))), (2, vr (some (ba 1))), (3, vr (some (ba 2))), (4, vr (some (ba 3))), (5, vr (some (ba 4))), (6, vi (M 2 0)), (7, vi node), (8, vi (M 1 0)), (9, vi (nn node)), (10, vi (j : Int)), (11, vi la), (12, vi se), (13, vi be), (14, vi of), (15, vi ins), (16, vi (ccF M pl j)), (17, vi (bhdF M (nn node) la i)), (18, vi (i : Int))] [] := by
        intro fi
        induction fi with
        | zero => intro i g1 g2; omega
        | succ fi ihi =>
          intro i g1 g2
          have hb := bhdF_in M (nn node) la i
          have hb9 : 0 ≤ bhdF M (nn node) la i → M 9 (bhdF M (nn node) la i) = 0 := fun g => by
            rcases bhd_spec M (nn node) la i with ⟨q, -⟩ | ⟨-, q, -⟩
            · omega
            · exact q.1.1
          refine x_iload C dL_same_73 rfl ?_
          refine x_iload C dL_same_75 rfl ?_
          refine x_icmp_ge (tgt := 149) C dL_same_77 (by decide) (by first | omega | exact bi_rng _) (by first | omega | exact bi_rng _) (fun h77 => ?_) (fun h77 => ?_)
          ·
            have e9 : bhdF M (nn node) la i = at1 pl j := by
              rw [show i = (M 2 0).toNat by omega]
              exact hp.next hn0.1 hnext
            exact X.mono (by omega) (by omega) (X.to (K149) (lsc (rfl) (lsc (rfl) (lsc (rfl) (lsc (rfl) (lsc (rfl) (lsc (rfl) (lsc (rfl) (lsc (rfl) (lsc (rfl) (lsc (rfl) (lsc (rfl) (lsc (rfl) (lsc (rfl) (lsc (rfl) (lsc (rfl) (lsc (rfl) (lsc (rfl) (lsc (lkv e9) (lsn))))))))))))))))))))
          ·
            refine x_aload_n C dL_same_80 rfl rfl ?_
            refine x_aload_n C dL_same_81 rfl rfl ?_
            refine x_aload_n C dL_same_82 rfl rfl ?_
            refine x_iload C dL_same_83 rfl ?_
            refine x_iload C dL_same_85 rfl ?_
            refine x_callS C hR cb_L_belongs u10_16 u10_15 (k_L_belongs hst hL hM hN hP (by omega) hnode) rfl (Nat.le_of_ble_eq_true rfl) rfl dL_same_87 (by decide) (by show _ ≤ 400 ∧ _ ≤ 2400; omega) (fun E x9 h9 => absurd h9.1 (by intro h; cases h)) (fun r9 x9 h9 => ?_)
            obtain ⟨e9, rfl⟩ := h9
            cases e9
            refine x_if_eq (tgt := 114) C dL_same_90 (by decide) (by first | omega | exact bi_rng _) (fun h90 => ?_) (fun h90 => ?_)
            ·
              replace h90 := bi_eq0.mp h90
              refine x_iconst C dL_same_114 ?_
              refine x_istore C dL_same_115 (by rw [hn]; exact Nat.le_of_ble_eq_true rfl) ?_
              refine x_iload C dL_same_117 rfl ?_
              refine x_if_eq (tgt := 143) C dL_same_119 (by decide) (by decide) (fun _ => ?_) (fun h => absurd h (by decide))
              refine x_iinc C dL_same_143 (by rw [hn]; exact Nat.le_of_ble_eq_true rfl) rfl ?_
              refine x_goto (tgt := 73) C dL_same_146 (by decide) ?_
              exact X.mono (by omega) (by omega) (X.to (ihi (i + 1) (by omega) (by omega)) (lsc (rfl) (lsc (rfl) (lsc (rfl) (lsc (rfl) (lsc (rfl) (lsc (rfl) (lsc (rfl) (lsc (rfl) (lsc (rfl) (lsc (rfl) (lsc (rfl) (lsc (rfl) (lsc (rfl) (lsc (rfl) (lsc (rfl) (lsc (rfl) (lsc (rfl) (lsc (lkv (by simp only [bhdF]; split <;> omega)) (lsc (lkv (by omega)) (lsn)))))))))))))))))))))
            ·
              replace h90 := bi_ne0.mp h90
              refine x_iload C dL_same_93 rfl ?_
              refine x_if_lt (tgt := 110) C dL_same_95 (by decide) (by first | omega | exact bi_rng _) (fun h95 => ?_) (fun h95 => ?_)
              ·
                refine x_iconst C dL_same_110 ?_
                refine x_goto (tgt := 115) C dL_same_111 (by decide) ?_
                refine x_istore C dL_same_115 (by rw [hn]; exact Nat.le_of_ble_eq_true rfl) ?_
                refine x_iload C dL_same_117 rfl ?_
                refine x_if_eq (tgt := 143) C dL_same_119 (by decide) (by decide) (fun h => absurd h (by decide)) (fun _ => ?_)
                refine x_iload C dL_same_122 rfl ?_
                refine x_if_lt (tgt := 139) C dL_same_124 (by decide) (by first | omega | exact bi_rng _) (fun h124 => ?_) (fun h124 => ?_)
                ·
                  refine x_iload C dL_same_139 rfl ?_
                  refine x_istore C dL_same_141 (by rw [hn]; exact Nat.le_of_ble_eq_true rfl) ?_
                  refine x_iinc C dL_same_143 (by rw [hn]; exact Nat.le_of_ble_eq_true rfl) rfl ?_
                  refine x_goto (tgt := 73) C dL_same_146 (by decide) ?_
                  exact X.mono (by omega) (by omega) (X.to (ihi (i + 1) (by omega) (by omega)) (lsc (rfl) (lsc (rfl) (lsc (rfl) (lsc (rfl) (lsc (rfl) (lsc (rfl) (lsc (rfl) (lsc (rfl) (lsc (rfl) (lsc (rfl) (lsc (rfl) (lsc (rfl) (lsc (rfl) (lsc (rfl) (lsc (rfl) (lsc (rfl) (lsc (rfl) (lsc (lkv (by simp only [bhdF]; split <;> omega)) (lsc (lkv (by omega)) (lsn)))))))))))))))))))))
                ·
                  refine x_aload_n C dL_same_127 rfl rfl ?_
                  refine x_aload_n C dL_same_128 rfl rfl ?_
                  refine x_iload C dL_same_129 rfl ?_
                  refine x_iload C dL_same_131 rfl ?_
                  refine x_callS C hR cb_L_isAhead u12_7 u12_6 (k_L_isAhead hst hL hM hN (by omega) (by omega) (by omega) (by omega)) rfl (Nat.le_of_ble_eq_true rfl) rfl dL_same_133 (by decide) (by show _ ≤ 400 ∧ _ ≤ 2400; omega) (fun E x9 h9 => absurd h9.1 (by intro h; cases h)) (fun r9 x9 h9 => ?_)
                  obtain ⟨e9, rfl⟩ := h9
                  cases e9
                  refine x_if_eq (tgt := 143) C dL_same_136 (by decide) (by first | omega | exact bi_rng _) (fun h136 => ?_) (fun h136 => ?_)
                  ·
                    replace h136 := bi_eq0.mp h136
                    refine x_iinc C dL_same_143 (by rw [hn]; exact Nat.le_of_ble_eq_true rfl) rfl ?_
                    refine x_goto (tgt := 73) C dL_same_146 (by decide) ?_
                    exact X.mono (by omega) (by omega) (X.to (ihi (i + 1) (by omega) (by omega)) (lsc (rfl) (lsc (rfl) (lsc (rfl) (lsc (rfl) (lsc (rfl) (lsc (rfl) (lsc (rfl) (lsc (rfl) (lsc (rfl) (lsc (rfl) (lsc (rfl) (lsc (rfl) (lsc (rfl) (lsc (rfl) (lsc (rfl) (lsc (rfl) (lsc (rfl) (lsc (lkv (by simp only [bhdF]; split <;> omega)) (lsc (lkv (by omega)) (lsn)))))))))))))))))))))
                  ·
                    replace h136 := bi_ne0.mp h136
                    refine x_iload C dL_same_139 rfl ?_
                    refine x_istore C dL_same_141 (by rw [hn]; exact Nat.le_of_ble_eq_true rfl) ?_
                    refine x_iinc C dL_same_143 (by rw [hn]; exact Nat.le_of_ble_eq_true rfl) rfl ?_
                    refine x_goto (tgt := 73) C dL_same_146 (by decide) ?_
                    exact X.mono (by omega) (by omega) (X.to (ihi (i + 1) (by omega) (by omega)) (lsc (rfl) (lsc (rfl) (lsc (rfl) (lsc (rfl) (lsc (rfl) (lsc (rfl) (lsc (rfl) (lsc (rfl) (lsc (rfl) (lsc (rfl) (lsc (rfl) (lsc (rfl) (lsc (rfl) (lsc (rfl) (lsc (rfl) (lsc (rfl) (lsc (rfl) (lsc (lkv (by simp only [bhdF]; split <;> omega)) (lsc (lkv (by omega)) (lsn)))))))))))))))))))))
              ·
                refine x_aload_n C dL_same_98 rfl rfl ?_
                refine x_aload_n C dL_same_99 rfl rfl ?_
                refine x_iload C dL_same_100 rfl ?_
                refine x_iload C dL_same_102 rfl ?_
                refine x_callS C hR cb_L_isAhead u12_7 u12_6 (k_L_isAhead hst hL hM hN (by omega) (by omega) (by omega) (by omega)) rfl (Nat.le_of_ble_eq_true rfl) rfl dL_same_104 (by decide) (by show _ ≤ 400 ∧ _ ≤ 2400; omega) (fun E x9 h9 => absurd h9.1 (by intro h; cases h)) (fun r9 x9 h9 => ?_)
                obtain ⟨e9, rfl⟩ := h9
                cases e9
                refine x_if_eq (tgt := 114) C dL_same_107 (by decide) (by first | omega | exact bi_rng _) (fun h107 => ?_) (fun h107 => ?_)
                ·
                  replace h107 := bi_eq0.mp h107
                  refine x_iconst C dL_same_114 ?_
                  refine x_istore C dL_same_115 (by rw [hn]; exact Nat.le_of_ble_eq_true rfl) ?_
                  refine x_iload C dL_same_117 rfl ?_
                  refine x_if_eq (tgt := 143) C dL_same_119 (by decide) (by decide) (fun _ => ?_) (fun h => absurd h (by decide))
                  refine x_iinc C dL_same_143 (by rw [hn]; exact Nat.le_of_ble_eq_true rfl) rfl ?_
                  refine x_goto (tgt := 73) C dL_same_146 (by decide) ?_
                  exact X.mono (by omega) (by omega) (X.to (ihi (i + 1) (by omega) (by omega)) (lsc (rfl) (lsc (rfl) (lsc (rfl) (lsc (rfl) (lsc (rfl) (lsc (rfl) (lsc (rfl) (lsc (rfl) (lsc (rfl) (lsc (rfl) (lsc (rfl) (lsc (rfl) (lsc (rfl) (lsc (rfl) (lsc (rfl) (lsc (rfl) (lsc (rfl) (lsc (lkv (by simp only [bhdF]; split <;> omega)) (lsc (lkv (by omega)) (lsn)))))))))))))))))))))
                ·
                  replace h107 := bi_ne0.mp h107
                  refine x_iconst C dL_same_110 ?_
                  refine x_goto (tgt := 115) C dL_same_111 (by decide) ?_
                  refine x_istore C dL_same_115 (by rw [hn]; exact Nat.le_of_ble_eq_true rfl) ?_
                  refine x_iload C dL_same_117 rfl ?_
                  refine x_if_eq (tgt := 143) C dL_same_119 (by decide) (by decide) (fun h => absurd h (by decide)) (fun _ => ?_)
                  refine x_iload C dL_same_122 rfl ?_
                  refine x_if_lt (tgt := 139) C dL_same_124 (by decide) (by first | omega | exact bi_rng _) (fun h124 => ?_) (fun h124 => ?_)
                  ·
                    refine x_iload C dL_same_139 rfl ?_
                    refine x_istore C dL_same_141 (by rw [hn]; exact Nat.le_of_ble_eq_true rfl) ?_
                    refine x_iinc C dL_same_143 (by rw [hn]; exact Nat.le_of_ble_eq_true rfl) rfl ?_
                    refine x_goto (tgt := 73) C dL_same_146 (by decide) ?_
                    exact X.mono (by omega) (by omega) (X.to (ihi (i + 1) (by omega) (by omega)) (lsc (rfl) (lsc (rfl) (lsc (rfl) (lsc (rfl) (lsc (rfl) (lsc (rfl) (lsc (rfl) (lsc (rfl) (lsc (rfl) (lsc (rfl) (lsc (rfl) (lsc (rfl) (lsc (rfl) (lsc (rfl) (lsc (rfl) (lsc (rfl) (lsc (rfl) (lsc (lkv (by simp only [bhdF]; split <;> omega)) (lsc (lkv (by omega)) (lsn)))))))))))))))))))))
                  ·
                    refine x_aload_n C dL_same_127 rfl rfl ?_
                    refine x_aload_n C dL_same_128 rfl rfl ?_
                    refine x_iload C dL_same_129 rfl ?_
                    refine x_iload C dL_same_131 rfl ?_
                    refine x_callS C hR cb_L_isAhead u12_7 u12_6 (k_L_isAhead hst hL hM hN (by omega) (by omega) (by omega) (by omega)) rfl (Nat.le_of_ble_eq_true rfl) rfl dL_same_133 (by decide) (by show _ ≤ 400 ∧ _ ≤ 2400; omega) (fun E x9 h9 => absurd h9.1 (by intro h; cases h)) (fun r9 x9 h9 => ?_)
                    obtain ⟨e9, rfl⟩ := h9
                    cases e9
                    refine x_if_eq (tgt := 143) C dL_same_136 (by decide) (by first | omega | exact bi_rng _) (fun h136 => ?_) (fun h136 => ?_)
                    ·
                      replace h136 := bi_eq0.mp h136
                      refine x_iinc C dL_same_143 (by rw [hn]; exact Nat.le_of_ble_eq_true rfl) rfl ?_
                      refine x_goto (tgt := 73) C dL_same_146 (by decide) ?_
                      exact X.mono (by omega) (by omega) (X.to (ihi (i + 1) (by omega) (by omega)) (lsc (rfl) (lsc (rfl) (lsc (rfl) (lsc (rfl) (lsc (rfl) (lsc (rfl) (lsc (rfl) (lsc (rfl) (lsc (rfl) (lsc (rfl) (lsc (rfl) (lsc (rfl) (lsc (rfl) (lsc (rfl) (lsc (rfl) (lsc (rfl) (lsc (rfl) (lsc (lkv (by simp only [bhdF]; split <;> omega)) (lsc (lkv (by omega)) (lsn)))))))))))))))))))))
                    ·
                      replace h136 := bi_ne0.mp h136
                      refine x_iload C dL_same_139 rfl ?_
                      refine x_istore C dL_same_141 (by rw [hn]; exact Nat.le_of_ble_eq_true rfl) ?_
                      refine x_iinc C dL_same_143 (by rw [hn]; exact Nat.le_of_ble_eq_true rfl) rfl ?_
                      refine x_goto (tgt := 73) C dL_same_146 (by decide) ?_
                      exact X.mono (by omega) (by omega) (X.to (ihi (i + 1) (by omega) (by omega)) (lsc (rfl) (lsc (rfl) (lsc (rfl) (lsc (rfl) (lsc (rfl) (lsc (rfl) (lsc (rfl) (lsc (rfl) (lsc (rfl) (lsc (rfl) (lsc (rfl) (lsc (rfl) (lsc (rfl) (lsc (rfl) (lsc (rfl) (lsc (rfl) (lsc (rfl) (lsc (lkv (by simp only [bhdF]; split <;> omega)) (lsc (lkv (by omega)) (lsn)))))))))))))))))))))
      refine x_iconst C dL_same_67 ?_
      refine x_istore C dL_same_68 (by rw [hn]; exact Nat.le_of_ble_eq_true rfl) ?_
      refine x_iconst C dL_same_70 ?_
      refine x_istore C dL_same_71 (by rw [hn]; exact Nat.le_of_ble_eq_true rfl) ?_
      exact X.mono (by omega) (by omega) (X.to (inner ((M 2 0).toNat + 1) 0 (by omega) (by omega)) (lsc (rfl) (lsc (rfl) (lsc (rfl) (lsc (rfl) (lsc (rfl) (lsc (rfl) (lsc (rfl) (lsc (rfl) (lsc (rfl) (lsc (rfl) (lsc (rfl) (lsc (rfl) (lsc (rfl) (lsc (rfl) (lsc (rfl) (lsc (rfl) (lsc (rfl) (lsc (rfl) (lsc (rfl) (lsn)))))))))))))))))))))
  have K16 : ∀ x : Int, x = nn node → X φ (LA cy ba (h, V)) (0) (0) 16 [(0, vr (some ob)), (1, vr (some (ba 0))), (2, vr (some (ba 1))), (3, vr (some (ba 2))), (4, vr (some (ba 3))), (5, vr (some (ba 4))), (6, vi (M 2 0)), (7, vi node), (8, vi (M 1 0))] [vi x] := by
    intro x hx
    subst hx
    refine x_istore C dL_same_16 (by rw [hn]; exact Nat.le_of_ble_eq_true rfl) ?_
    refine x_aload_n C dL_same_18 rfl rfl ?_
    refine x_iload C dL_same_19 rfl ?_
    refine x_callV C hR cb_X6_profile cv_X6_profile u11_22 (q_profile hst R hlow hx19) (a_recvH R.k (by decide)) ⟨_, _, rfl⟩ rfl (Nat.le_of_ble_eq_true rfl) rfl dL_same_21 (by decide) (by show _ ≤ 400 ∧ _ ≤ 2400; omega) (fun E x9 h9 => absurd h9.1 (by intro h; cases h)) (fun r9 x9 h9 => ?_)
    obtain ⟨e9, h9x, rfl, R⟩ := h9
    cases e9
    refine x_aload_n C dL_same_24 rfl rfl ?_
    refine x_iload C dL_same_25 rfl ?_
    refine a_iald (f := 2) (N := 6) C rfl (by decide) (by first | omega | exact bi_rng _) dL_same_27 ?_
    refine x_icmp_ne (tgt := 44) C dL_same_28 (by decide) (by first | omega | exact bi_rng _) (by first | omega | exact bi_rng _) (fun h28 => ?_) (fun h28 => ?_)
    ·
      exfalso; omega
    ·
      refine x_aload_n C dL_same_31 rfl rfl ?_
      refine x_iload C dL_same_32 rfl ?_
      refine x_callV C hR cb_X6_profileAnew cv_X6_profileAnew u12_2 (q_profileAnew hst R hlow hx19) (a_recvH R.k (by decide)) ⟨_, _, rfl⟩ rfl (Nat.le_of_ble_eq_true rfl) rfl dL_same_34 (by decide) (by show _ ≤ 400 ∧ _ ≤ 2400; omega) (fun E x9 h9 => absurd h9.1 (by intro h; cases h)) (fun r9 x9 h9 => ?_)
      obtain ⟨e9, h9x, rfl, R⟩ := h9
      cases e9
      refine x_aload_n C dL_same_37 rfl rfl ?_
      refine x_iload C dL_same_38 rfl ?_
      refine a_iald (f := 2) (N := 6) C rfl (by decide) (by first | omega | exact bi_rng _) dL_same_40 ?_
      refine x_icmp_eq (tgt := 46) C dL_same_41 (by decide) (by first | omega | exact bi_rng _) (by first | omega | exact bi_rng _) (fun h41 => ?_) (fun h41 => ?_)
      ·
        refine x_iconst C dL_same_46 ?_
        refine x_istore C dL_same_47 (by rw [hn]; exact Nat.le_of_ble_eq_true rfl) ?_
        refine x_iconst C dL_same_49 ?_
        refine x_istore C dL_same_50 (by rw [hn]; exact Nat.le_of_ble_eq_true rfl) ?_
        refine x_iconst C dL_same_52 ?_
        refine x_istore C dL_same_53 (by rw [hn]; exact Nat.le_of_ble_eq_true rfl) ?_
        refine x_iconst C dL_same_55 ?_
        refine x_istore C dL_same_56 (by rw [hn]; exact Nat.le_of_ble_eq_true rfl) ?_
        refine x_iconst C dL_same_58 ?_
        refine x_istore C dL_same_59 (by rw [hn]; exact Nat.le_of_ble_eq_true rfl) ?_
        refine x_iconst C dL_same_61 ?_
        refine x_istore C dL_same_62 (by rw [hn]; exact Nat.le_of_ble_eq_true rfl) ?_
        refine x_iconst C dL_same_64 ?_
        refine x_istore C dL_same_65 (by rw [hn]; exact Nat.le_of_ble_eq_true rfl) ?_
        exact X.mono (by omega) (by omega) (X.to (loop (pl.length + 1) 0 (-1) (-1) 0 (-1) 0 _ (by omega) (by omega) R ⟨by decide, Or.inl ⟨rfl, rfl, rfl, rfl⟩⟩) (lsc (rfl) (lsc (rfl) (lsc (rfl) (lsc (rfl) (lsc (rfl) (lsc (rfl) (lsc (rfl) (lsc (rfl) (lsc (rfl) (lsc (rfl) (lsc (rfl) (lsc (rfl) (lsc (rfl) (lsc (rfl) (lsc (rfl) (lsc (rfl) (lsc (rfl) (lsn)))))))))))))))))))
      ·
        exfalso; omega
  refine x_iload C dL_same_0 rfl ?_
  refine x_iconst C dL_same_2 ?_
  refine x_icmp_ge (tgt := 11) C dL_same_3 (by decide) (by first | omega | exact bi_rng _) (by first | omega | exact bi_rng _) (fun h3 => ?_) (fun h3 => ?_)
  ·
    refine x_bipush C dL_same_11 (by decide) ?_
    refine x_iload C dL_same_13 rfl ?_
    refine x_iadd C dL_same_15 ?_
    exact X.mono (by omega) (by omega) (X.to (K16 _ (by first | rw [nn_hi (by omega)] | rw [nn_lo (by omega)])) (lsc (rfl) (lsc (rfl) (lsc (rfl) (lsc (rfl) (lsc (rfl) (lsc (rfl) (lsc (rfl) (lsc (rfl) (lsc (rfl) (lsn)))))))))))
  ·
    refine x_iload C dL_same_6 rfl ?_
    refine x_goto (tgt := 16) C dL_same_8 (by decide) ?_
    exact X.mono (by omega) (by omega) (X.to (K16 _ (by first | rw [nn_hi (by omega)] | rw [nn_lo (by omega)])) (lsc (rfl) (lsc (rfl) (lsc (rfl) (lsc (rfl) (lsc (rfl) (lsc (rfl) (lsc (rfl) (lsc (rfl) (lsc (rfl) (lsn)))))))))))

/-! The reference's calls without loops -/
theorem mset_self (M : MS) (k : Nat) (j z : Int) (h : z = M k j) : mset M k j z = M := by
  funext k' j'
  simp only [mset]
  split
  · rename_i hh
    obtain ⟨rfl, rfl⟩ := hh
    exact h
  · rfl
def evM (M : MS) (its by' who what frm time : Int) : MS :=
  let n := M 2 0
  let M1 := mset (mset (mset (mset (mset (mset M 3 n its) 4 n by') 5 n who) 6 n what) 7 n frm) 8 n time
  let M2 := mset (mset (mset M1 2 0 (n + 1)) 10 its 1) 23 (10 + by') 1
  if who = -1 then M2 else mset M2 23 who 1
def conM (M : MS) (row frm is : Int) : MS := mset (mset (mset M 15 (20 * row + M 14 row) frm) 16 (20 * row + M 14 row) is) 14 row (M 14 row + 1)
def grpM (M : MS) (p what least days : Int) : MS := mset (mset (mset (mset (mset M 18 (M 17 0) p) 19 (M 17 0) what) 20 (M 17 0) least) 21 (M 17 0) days) 17 0 (M 17 0 + 1)
set_option maxRecDepth 100000 in
set_option maxHeartbeats 4000000 in
theorem k_X7_event {l : Launch} {D : va_G} {cy : CY} (hst : l.stackTraces = false) {b : Nat → Nat} {t : Int} {M : MS} {its dv who what frm time : Int} (hM : MI M) (hits : -2147483648 ≤ its ∧ its ≤ 2147483647) (hdv : -2147483648 ≤ dv ∧ dv ≤ 2147483647) (hwho : -2147483648 ≤ who ∧ who ≤ 2147483647) (hwhat : -2147483648 ≤ what ∧ what ≤ 2147483647) (hfrm : -2147483648 ≤ frm ∧ frm ≤ 2147483647) (htime : -2147483648 ≤ time ∧ time ≤ 2147483647) : Ct l D cy yX7_event (Cond.code yX7_event cX7_event 8 (some .boolean)) 1 22 0 0 (IM cy b) [vr (some (b 0)), vi its, vi dv, vi who, vi what, vi frm, vi time] (t, M) (fun r q' => (((0 ≤ its ∧ its ≤ 999) ∧ (0 ≤ dv ∧ dv ≤ 9) ∧ (-1 ≤ who ∧ who ≤ 9) ∧ (0 ≤ what ∧ what ≤ 4) ∧ (-1 ≤ frm ∧ frm ≤ 9) ∧ (0 ≤ time ∧ time ≤ 100000)) ∧ M 10 its = 0 ∧ M 2 0 < 200 ∧ r = .ok (some (vi 1)) ∧ q' = (0, evM M its dv who what frm time)) ∨ (((0 ≤ its ∧ its ≤ 999) ∧ (0 ≤ dv ∧ dv ≤ 9) ∧ (-1 ≤ who ∧ who ≤ 9) ∧ (0 ≤ what ∧ what ≤ 4) ∧ (-1 ≤ frm ∧ frm ≤ 9) ∧ (0 ≤ time ∧ time ≤ 100000)) ∧ M 10 its = 1 ∧ r = .ok (some (vi 0)) ∧ q' = (0, M)) ∨ (((0 ≤ its ∧ its ≤ 999) ∧ (0 ≤ dv ∧ dv ≤ 9) ∧ (-1 ≤ who ∧ who ≤ 9) ∧ (0 ≤ what ∧ what ≤ 4) ∧ (-1 ≤ frm ∧ frm ≤ 9) ∧ (0 ≤ time ∧ time ≤ 100000)) ∧ M 10 its = 0 ∧ M 2 0 = 200 ∧ r = .ok (some (vi 0)) ∧ q' = (2, M)) ∨ (¬ (((0 ≤ its ∧ its ≤ 999) ∧ (0 ≤ dv ∧ dv ≤ 9) ∧ (-1 ≤ who ∧ who ≤ 9) ∧ (0 ≤ what ∧ what ≤ 4) ∧ (-1 ≤ frm ∧ frm ≤ 9) ∧ (0 ≤ time ∧ time ≤ 100000))) ∧ r = .ok (some (vi 0)) ∧ q' = (1, M))) := by
  refine Ct.of1 (own := RX7) hst (by decide) rfl (Nat.le_of_ble_eq_true rfl) (cat1 (vr_cat _) (cat1 (vi_cat _) (cat1 (vi_cat _) (cat1 (vi_cat _) (cat1 (vi_cat _) (cat1 (vi_cat _) (cat1 (vi_cat _) (cat0)))))))) ?_
  intro φ C hQ hn hR hl hD
  subst hl hD
  have hN := hM.n
  have g10 := hM.b10 its
  refine x_iload_n C dX7_event_0 rfl rfl ?_
  refine x_iconst C dX7_event_1 ?_
  refine x_sipush C dX7_event_2 (by decide) ?_
  refine x_callS C hR cb_X7_isIn u7_11 u7_10 (k_X7_isIn hst (by omega) (by omega) (by omega)) rfl (Nat.le_of_ble_eq_true rfl) rfl dX7_event_5 (by decide) (by decide) (fun E x9 h9 => absurd h9.1 (by intro h; cases h)) (fun r9 x9 h9 => ?_)
  obtain ⟨e9, rfl⟩ := h9
  cases e9
  refine x_if_eq (tgt := 67) C dX7_event_8 (by decide) (by first | omega | exact bi_rng _) (fun h8 => ?_) (fun h8 => ?_)
  ·
    replace h8 := bi_eq0.mp h8
    refine x_iconst C dX7_event_67 ?_
    refine x_istore C dX7_event_68 (by rw [hn]; exact Nat.le_of_ble_eq_true rfl) ?_
    refine x_aload_n C dX7_event_70 rfl rfl ?_
    refine x_iload C dX7_event_71 rfl ?_
    refine x_if_eq (tgt := 80) C dX7_event_73 (by decide) (by decide) (fun _ => ?_) (fun h => absurd h (by decide))
    refine x_iconst C dX7_event_80 ?_
    refine m_put (f := 0) C (by decide) u7_8 rfl rfl (by decide +kernel) (wsM_put0 _ _ _ _ _) dX7_event_81 ?_
    refine x_aload_n C dX7_event_84 rfl rfl ?_
    refine m_get (f := 0) C (by decide) u7_8 rfl rfl dX7_event_85 ?_
    refine x_if_gt (tgt := 100) C dX7_event_88 (by decide) (by decide) (fun _ => ?_) (fun h => absurd h (by decide))
    refine x_iconst C dX7_event_100 ?_
    refine x_iret (ty := .boolean) C hQ dX7_event_101 rfl (by decide) (by decide) (by decide) ?_
    first | exact Or.inr (Or.inl ⟨⟨by omega, by omega, by omega, by omega, by omega, by omega⟩, by omega, rfl, rfl⟩) | exact Or.inr (Or.inr (Or.inr ⟨by omega, rfl, rfl⟩))
  ·
    replace h8 := bi_ne0.mp h8
    refine x_iload_n C dX7_event_11 rfl rfl ?_
    refine x_iconst C dX7_event_12 ?_
    refine x_bipush C dX7_event_13 (by decide) ?_
    refine x_callS C hR cb_X7_isIn u7_11 u7_10 (k_X7_isIn hst (by omega) (by omega) (by omega)) rfl (Nat.le_of_ble_eq_true rfl) rfl dX7_event_15 (by decide) (by decide) (fun E x9 h9 => absurd h9.1 (by intro h; cases h)) (fun r9 x9 h9 => ?_)
    obtain ⟨e9, rfl⟩ := h9
    cases e9
    refine x_if_eq (tgt := 67) C dX7_event_18 (by decide) (by first | omega | exact bi_rng _) (fun h18 => ?_) (fun h18 => ?_)
    ·
      replace h18 := bi_eq0.mp h18
      refine x_iconst C dX7_event_67 ?_
      refine x_istore C dX7_event_68 (by rw [hn]; exact Nat.le_of_ble_eq_true rfl) ?_
      refine x_aload_n C dX7_event_70 rfl rfl ?_
      refine x_iload C dX7_event_71 rfl ?_
      refine x_if_eq (tgt := 80) C dX7_event_73 (by decide) (by decide) (fun _ => ?_) (fun h => absurd h (by decide))
      refine x_iconst C dX7_event_80 ?_
      refine m_put (f := 0) C (by decide) u7_8 rfl rfl (by decide +kernel) (wsM_put0 _ _ _ _ _) dX7_event_81 ?_
      refine x_aload_n C dX7_event_84 rfl rfl ?_
      refine m_get (f := 0) C (by decide) u7_8 rfl rfl dX7_event_85 ?_
      refine x_if_gt (tgt := 100) C dX7_event_88 (by decide) (by decide) (fun _ => ?_) (fun h => absurd h (by decide))
      refine x_iconst C dX7_event_100 ?_
      refine x_iret (ty := .boolean) C hQ dX7_event_101 rfl (by decide) (by decide) (by decide) ?_
      first | exact Or.inr (Or.inl ⟨⟨by omega, by omega, by omega, by omega, by omega, by omega⟩, by omega, rfl, rfl⟩) | exact Or.inr (Or.inr (Or.inr ⟨by omega, rfl, rfl⟩))
    ·
      replace h18 := bi_ne0.mp h18
      refine x_iload_n C dX7_event_21 rfl rfl ?_
      refine x_iconst C dX7_event_22 ?_
      refine x_bipush C dX7_event_23 (by decide) ?_
      refine x_callS C hR cb_X7_isIn u7_11 u7_10 (k_X7_isIn hst (by omega) (by omega) (by omega)) rfl (Nat.le_of_ble_eq_true rfl) rfl dX7_event_25 (by decide) (by decide) (fun E x9 h9 => absurd h9.1 (by intro h; cases h)) (fun r9 x9 h9 => ?_)
      obtain ⟨e9, rfl⟩ := h9
      cases e9
      refine x_if_eq (tgt := 67) C dX7_event_28 (by decide) (by first | omega | exact bi_rng _) (fun h28 => ?_) (fun h28 => ?_)
      ·
        replace h28 := bi_eq0.mp h28
        refine x_iconst C dX7_event_67 ?_
        refine x_istore C dX7_event_68 (by rw [hn]; exact Nat.le_of_ble_eq_true rfl) ?_
        refine x_aload_n C dX7_event_70 rfl rfl ?_
        refine x_iload C dX7_event_71 rfl ?_
        refine x_if_eq (tgt := 80) C dX7_event_73 (by decide) (by decide) (fun _ => ?_) (fun h => absurd h (by decide))
        refine x_iconst C dX7_event_80 ?_
        refine m_put (f := 0) C (by decide) u7_8 rfl rfl (by decide +kernel) (wsM_put0 _ _ _ _ _) dX7_event_81 ?_
        refine x_aload_n C dX7_event_84 rfl rfl ?_
        refine m_get (f := 0) C (by decide) u7_8 rfl rfl dX7_event_85 ?_
        refine x_if_gt (tgt := 100) C dX7_event_88 (by decide) (by decide) (fun _ => ?_) (fun h => absurd h (by decide))
        refine x_iconst C dX7_event_100 ?_
        refine x_iret (ty := .boolean) C hQ dX7_event_101 rfl (by decide) (by decide) (by decide) ?_
        first | exact Or.inr (Or.inl ⟨⟨by omega, by omega, by omega, by omega, by omega, by omega⟩, by omega, rfl, rfl⟩) | exact Or.inr (Or.inr (Or.inr ⟨by omega, rfl, rfl⟩))
      ·
        replace h28 := bi_ne0.mp h28
        refine x_iload C dX7_event_31 rfl ?_
        refine x_iconst C dX7_event_33 ?_
        refine x_iconst C dX7_event_34 ?_
        refine x_callS C hR cb_X7_isIn u7_11 u7_10 (k_X7_isIn hst (by omega) (by omega) (by omega)) rfl (Nat.le_of_ble_eq_true rfl) rfl dX7_event_35 (by decide) (by decide) (fun E x9 h9 => absurd h9.1 (by intro h; cases h)) (fun r9 x9 h9 => ?_)
        obtain ⟨e9, rfl⟩ := h9
        cases e9
        refine x_if_eq (tgt := 67) C dX7_event_38 (by decide) (by first | omega | exact bi_rng _) (fun h38 => ?_) (fun h38 => ?_)
        ·
          replace h38 := bi_eq0.mp h38
          refine x_iconst C dX7_event_67 ?_
          refine x_istore C dX7_event_68 (by rw [hn]; exact Nat.le_of_ble_eq_true rfl) ?_
          refine x_aload_n C dX7_event_70 rfl rfl ?_
          refine x_iload C dX7_event_71 rfl ?_
          refine x_if_eq (tgt := 80) C dX7_event_73 (by decide) (by decide) (fun _ => ?_) (fun h => absurd h (by decide))
          refine x_iconst C dX7_event_80 ?_
          refine m_put (f := 0) C (by decide) u7_8 rfl rfl (by decide +kernel) (wsM_put0 _ _ _ _ _) dX7_event_81 ?_
          refine x_aload_n C dX7_event_84 rfl rfl ?_
          refine m_get (f := 0) C (by decide) u7_8 rfl rfl dX7_event_85 ?_
          refine x_if_gt (tgt := 100) C dX7_event_88 (by decide) (by decide) (fun _ => ?_) (fun h => absurd h (by decide))
          refine x_iconst C dX7_event_100 ?_
          refine x_iret (ty := .boolean) C hQ dX7_event_101 rfl (by decide) (by decide) (by decide) ?_
          first | exact Or.inr (Or.inl ⟨⟨by omega, by omega, by omega, by omega, by omega, by omega⟩, by omega, rfl, rfl⟩) | exact Or.inr (Or.inr (Or.inr ⟨by omega, rfl, rfl⟩))
        ·
          replace h38 := bi_ne0.mp h38
          refine x_iload C dX7_event_41 rfl ?_
          refine x_iconst C dX7_event_43 ?_
          refine x_bipush C dX7_event_44 (by decide) ?_
          refine x_callS C hR cb_X7_isIn u7_11 u7_10 (k_X7_isIn hst (by omega) (by omega) (by omega)) rfl (Nat.le_of_ble_eq_true rfl) rfl dX7_event_46 (by decide) (by decide) (fun E x9 h9 => absurd h9.1 (by intro h; cases h)) (fun r9 x9 h9 => ?_)
          obtain ⟨e9, rfl⟩ := h9
          cases e9
          refine x_if_eq (tgt := 67) C dX7_event_49 (by decide) (by first | omega | exact bi_rng _) (fun h49 => ?_) (fun h49 => ?_)
          ·
            replace h49 := bi_eq0.mp h49
            refine x_iconst C dX7_event_67 ?_
            refine x_istore C dX7_event_68 (by rw [hn]; exact Nat.le_of_ble_eq_true rfl) ?_
            refine x_aload_n C dX7_event_70 rfl rfl ?_
            refine x_iload C dX7_event_71 rfl ?_
            refine x_if_eq (tgt := 80) C dX7_event_73 (by decide) (by decide) (fun _ => ?_) (fun h => absurd h (by decide))
            refine x_iconst C dX7_event_80 ?_
            refine m_put (f := 0) C (by decide) u7_8 rfl rfl (by decide +kernel) (wsM_put0 _ _ _ _ _) dX7_event_81 ?_
            refine x_aload_n C dX7_event_84 rfl rfl ?_
            refine m_get (f := 0) C (by decide) u7_8 rfl rfl dX7_event_85 ?_
            refine x_if_gt (tgt := 100) C dX7_event_88 (by decide) (by decide) (fun _ => ?_) (fun h => absurd h (by decide))
            refine x_iconst C dX7_event_100 ?_
            refine x_iret (ty := .boolean) C hQ dX7_event_101 rfl (by decide) (by decide) (by decide) ?_
            first | exact Or.inr (Or.inl ⟨⟨by omega, by omega, by omega, by omega, by omega, by omega⟩, by omega, rfl, rfl⟩) | exact Or.inr (Or.inr (Or.inr ⟨by omega, rfl, rfl⟩))
          ·
            replace h49 := bi_ne0.mp h49
            refine x_iload C dX7_event_52 rfl ?_
            refine x_iconst C dX7_event_54 ?_
            refine x_ldc (z := 100000) C u7_7 (by decide) dX7_event_55 ?_
            refine x_callS C hR cb_X7_isIn u7_11 u7_10 (k_X7_isIn hst (by omega) (by omega) (by omega)) rfl (Nat.le_of_ble_eq_true rfl) rfl dX7_event_57 (by decide) (by decide) (fun E x9 h9 => absurd h9.1 (by intro h; cases h)) (fun r9 x9 h9 => ?_)
            obtain ⟨e9, rfl⟩ := h9
            cases e9
            refine x_if_eq (tgt := 67) C dX7_event_60 (by decide) (by first | omega | exact bi_rng _) (fun h60 => ?_) (fun h60 => ?_)
            ·
              replace h60 := bi_eq0.mp h60
              refine x_iconst C dX7_event_67 ?_
              refine x_istore C dX7_event_68 (by rw [hn]; exact Nat.le_of_ble_eq_true rfl) ?_
              refine x_aload_n C dX7_event_70 rfl rfl ?_
              refine x_iload C dX7_event_71 rfl ?_
              refine x_if_eq (tgt := 80) C dX7_event_73 (by decide) (by decide) (fun _ => ?_) (fun h => absurd h (by decide))
              refine x_iconst C dX7_event_80 ?_
              refine m_put (f := 0) C (by decide) u7_8 rfl rfl (by decide +kernel) (wsM_put0 _ _ _ _ _) dX7_event_81 ?_
              refine x_aload_n C dX7_event_84 rfl rfl ?_
              refine m_get (f := 0) C (by decide) u7_8 rfl rfl dX7_event_85 ?_
              refine x_if_gt (tgt := 100) C dX7_event_88 (by decide) (by decide) (fun _ => ?_) (fun h => absurd h (by decide))
              refine x_iconst C dX7_event_100 ?_
              refine x_iret (ty := .boolean) C hQ dX7_event_101 rfl (by decide) (by decide) (by decide) ?_
              first | exact Or.inr (Or.inl ⟨⟨by omega, by omega, by omega, by omega, by omega, by omega⟩, by omega, rfl, rfl⟩) | exact Or.inr (Or.inr (Or.inr ⟨by omega, rfl, rfl⟩))
            ·
              replace h60 := bi_ne0.mp h60
              refine x_iconst C dX7_event_63 ?_
              refine x_goto (tgt := 68) C dX7_event_64 (by decide) ?_
              refine x_istore C dX7_event_68 (by rw [hn]; exact Nat.le_of_ble_eq_true rfl) ?_
              refine x_aload_n C dX7_event_70 rfl rfl ?_
              refine x_iload C dX7_event_71 rfl ?_
              refine x_if_eq (tgt := 80) C dX7_event_73 (by decide) (by decide) (fun h => absurd h (by decide)) (fun _ => ?_)
              refine x_iconst C dX7_event_76 ?_
              refine x_goto (tgt := 81) C dX7_event_77 (by decide) ?_
              refine m_put (f := 0) C (by decide) u7_8 rfl rfl (by decide +kernel) (wsM_put0 _ _ _ _ _) dX7_event_81 ?_
              refine x_aload_n C dX7_event_84 rfl rfl ?_
              refine m_get (f := 0) C (by decide) u7_8 rfl rfl dX7_event_85 ?_
              refine x_if_gt (tgt := 100) C dX7_event_88 (by decide) (by decide) (fun h => absurd h (by decide)) (fun _ => ?_)
              refine x_aload_n C dX7_event_91 rfl rfl ?_
              refine m_get (f := 10) C (by decide) u2_7 rfl rfl dX7_event_92 ?_
              refine x_iload_n C dX7_event_95 rfl rfl ?_
              refine m_zald (f := 10) (q0 := 8) (N := 1000) C rfl (by decide) (by first | omega | exact bi_rng _) dX7_event_96 ?_
              refine x_if_eq (tgt := 102) C dX7_event_97 (by decide) (by first | omega | exact bi_rng _) (fun h97 => ?_) (fun h97 => ?_)
              ·
                refine x_aload_n C dX7_event_102 rfl rfl ?_
                refine x_aload_n C dX7_event_103 rfl rfl ?_
                refine m_get (f := 2) C (by decide) u7_9 rfl rfl dX7_event_104 ?_
                refine x_sipush C dX7_event_107 (by decide) ?_
                refine x_icmp_ne (tgt := 117) C dX7_event_110 (by decide) (by first | omega | exact bi_rng _) (by first | omega | exact bi_rng _) (fun h110 => ?_) (fun h110 => ?_)
                ·
                  refine x_iconst C dX7_event_117 ?_
                  refine m_put (f := 0) C (by decide) u7_8 rfl rfl (by decide +kernel) (wsM_put0 _ _ _ _ _) dX7_event_118 ?_
                  refine x_aload_n C dX7_event_121 rfl rfl ?_
                  refine m_get (f := 0) C (by decide) u7_8 rfl rfl dX7_event_122 ?_
                  refine x_if_le (tgt := 130) C dX7_event_125 (by decide) (by decide) (fun _ => ?_) (fun h => absurd h (by decide))
                  refine x_aload_n C dX7_event_130 rfl rfl ?_
                  refine m_get (f := 3) C (by decide) u2_0 rfl rfl dX7_event_131 ?_
                  refine x_aload_n C dX7_event_134 rfl rfl ?_
                  refine m_get (f := 2) C (by decide) u7_9 rfl rfl dX7_event_135 ?_
                  refine x_iload_n C dX7_event_138 rfl rfl ?_
                  refine m_iast (f := 3) (q0 := 1) (N := 200) C rfl (by decide) (by first | omega | exact bi_rng _) (wsM_st3 _ _ _ _ (by first | omega | exact bi_rng _) _) dX7_event_139 ?_
                  refine x_aload_n C dX7_event_140 rfl rfl ?_
                  refine m_get (f := 4) C (by decide) u2_1 rfl rfl dX7_event_141 ?_
                  refine x_aload_n C dX7_event_144 rfl rfl ?_
                  refine m_get (f := 2) C (by decide) u7_9 rfl rfl dX7_event_145 ?_
                  change X φ _ _ _ _ _ (vi (M 2 0) :: _)
                  refine x_iload_n C dX7_event_148 rfl rfl ?_
                  refine m_iast (f := 4) (q0 := 2) (N := 200) C rfl (by decide) (by first | omega | exact bi_rng _) (wsM_st4 _ _ _ _ (by first | omega | exact bi_rng _) _) dX7_event_149 ?_
                  refine x_aload_n C dX7_event_150 rfl rfl ?_
                  refine m_get (f := 5) C (by decide) u2_2 rfl rfl dX7_event_151 ?_
                  refine x_aload_n C dX7_event_154 rfl rfl ?_
                  refine m_get (f := 2) C (by decide) u7_9 rfl rfl dX7_event_155 ?_
                  change X φ _ _ _ _ _ (vi (M 2 0) :: _)
                  refine x_iload_n C dX7_event_158 rfl rfl ?_
                  refine m_iast (f := 5) (q0 := 3) (N := 200) C rfl (by decide) (by first | omega | exact bi_rng _) (wsM_st5 _ _ _ _ (by first | omega | exact bi_rng _) _) dX7_event_159 ?_
                  refine x_aload_n C dX7_event_160 rfl rfl ?_
                  refine m_get (f := 6) C (by decide) u2_3 rfl rfl dX7_event_161 ?_
                  refine x_aload_n C dX7_event_164 rfl rfl ?_
                  refine m_get (f := 2) C (by decide) u7_9 rfl rfl dX7_event_165 ?_
                  change X φ _ _ _ _ _ (vi (M 2 0) :: _)
                  refine x_iload C dX7_event_168 rfl ?_
                  refine m_iast (f := 6) (q0 := 4) (N := 200) C rfl (by decide) (by first | omega | exact bi_rng _) (wsM_st6 _ _ _ _ (by first | omega | exact bi_rng _) _) dX7_event_170 ?_
                  refine x_aload_n C dX7_event_171 rfl rfl ?_
                  refine m_get (f := 7) C (by decide) u2_4 rfl rfl dX7_event_172 ?_
                  refine x_aload_n C dX7_event_175 rfl rfl ?_
                  refine m_get (f := 2) C (by decide) u7_9 rfl rfl dX7_event_176 ?_
                  change X φ _ _ _ _ _ (vi (M 2 0) :: _)
                  refine x_iload C dX7_event_179 rfl ?_
                  refine m_iast (f := 7) (q0 := 5) (N := 200) C rfl (by decide) (by first | omega | exact bi_rng _) (wsM_st7 _ _ _ _ (by first | omega | exact bi_rng _) _) dX7_event_181 ?_
                  refine x_aload_n C dX7_event_182 rfl rfl ?_
                  refine m_get (f := 8) C (by decide) u2_5 rfl rfl dX7_event_183 ?_
                  refine x_aload_n C dX7_event_186 rfl rfl ?_
                  refine m_get (f := 2) C (by decide) u7_9 rfl rfl dX7_event_187 ?_
                  change X φ _ _ _ _ _ (vi (M 2 0) :: _)
                  refine x_iload C dX7_event_190 rfl ?_
                  refine m_iast (f := 8) (q0 := 6) (N := 200) C rfl (by decide) (by first | omega | exact bi_rng _) (wsM_st8 _ _ _ _ (by first | omega | exact bi_rng _) _) dX7_event_192 ?_
                  refine x_aload_n C dX7_event_193 rfl rfl ?_
                  refine x_dup C dX7_event_194 (by first | rfl | exact vr_cat _ | exact vi_cat _) ?_
                  refine m_get (f := 2) C (by decide) u7_9 rfl rfl dX7_event_195 ?_
                  change X φ _ _ _ _ _ (vi (M 2 0) :: _)
                  refine x_iconst C dX7_event_198 ?_
                  refine x_iadd C dX7_event_199 ?_
                  refine m_put (f := 2) C (by decide) u7_9 rfl rfl (by decide +kernel) (wsM_put2 _ _ _ _ _) dX7_event_200 ?_
                  refine x_aload_n C dX7_event_203 rfl rfl ?_
                  refine m_get (f := 10) C (by decide) u2_7 rfl rfl dX7_event_204 ?_
                  refine x_iload_n C dX7_event_207 rfl rfl ?_
                  refine x_iconst C dX7_event_208 ?_
                  refine m_zast (f := 10) (q0 := 8) (N := 1000) C rfl (by decide) (by first | omega | exact bi_rng _) (by decide) (wsM_st10 _ _ _ _ (by first | omega | exact bi_rng _) _) dX7_event_209 ?_
                  refine x_aload_n C dX7_event_210 rfl rfl ?_
                  refine m_get (f := 23) C (by decide) u2_19 rfl rfl dX7_event_211 ?_
                  refine x_bipush C dX7_event_214 (by decide) ?_
                  refine x_iload_n C dX7_event_216 rfl rfl ?_
                  refine x_iadd C dX7_event_217 ?_
                  refine x_iconst C dX7_event_218 ?_
                  refine m_zast (f := 23) (q0 := 20) (N := 20) C rfl (by decide) (by first | omega | exact bi_rng _) (by decide) (wsM_st23 _ _ _ _ (by first | omega | exact bi_rng _) _) dX7_event_219 ?_
                  refine x_iload_n C dX7_event_220 rfl rfl ?_
                  refine x_iconst C dX7_event_221 ?_
                  refine x_icmp_eq (tgt := 232) C dX7_event_222 (by decide) (by first | omega | exact bi_rng _) (by first | omega | exact bi_rng _) (fun h222 => ?_) (fun h222 => ?_)
                  ·
                    refine x_iconst C dX7_event_232 ?_
                    refine x_iret (ty := .boolean) C hQ dX7_event_233 rfl (by decide) (by decide) (by decide) ?_
                    refine Or.inl ⟨⟨by omega, by omega, by omega, by omega, by omega, by omega⟩, by omega, by omega, rfl, ?_⟩
                    unfold evM
                    simp only []
                    first | rw [if_pos h222] | rw [if_neg h222]
                  ·
                    refine x_aload_n C dX7_event_225 rfl rfl ?_
                    refine m_get (f := 23) C (by decide) u2_19 rfl rfl dX7_event_226 ?_
                    refine x_iload_n C dX7_event_229 rfl rfl ?_
                    refine x_iconst C dX7_event_230 ?_
                    refine m_zast (f := 23) (q0 := 20) (N := 20) C rfl (by decide) (by first | omega | exact bi_rng _) (by decide) (wsM_st23 _ _ _ _ (by first | omega | exact bi_rng _) _) dX7_event_231 ?_
                    refine x_iconst C dX7_event_232 ?_
                    refine x_iret (ty := .boolean) C hQ dX7_event_233 rfl (by decide) (by decide) (by decide) ?_
                    refine Or.inl ⟨⟨by omega, by omega, by omega, by omega, by omega, by omega⟩, by omega, by omega, rfl, ?_⟩
                    unfold evM
                    simp only []
                    first | rw [if_pos h222] | rw [if_neg h222]
                ·
                  refine x_iconst C dX7_event_113 ?_
                  refine x_goto (tgt := 118) C dX7_event_114 (by decide) ?_
                  refine m_put (f := 0) C (by decide) u7_8 rfl rfl (by decide +kernel) (wsM_put0 _ _ _ _ _) dX7_event_118 ?_
                  refine x_aload_n C dX7_event_121 rfl rfl ?_
                  refine m_get (f := 0) C (by decide) u7_8 rfl rfl dX7_event_122 ?_
                  refine x_if_le (tgt := 130) C dX7_event_125 (by decide) (by decide) (fun h => absurd h (by decide)) (fun _ => ?_)
                  refine x_iconst C dX7_event_128 ?_
                  refine x_iret (ty := .boolean) C hQ dX7_event_129 rfl (by decide) (by decide) (by decide) ?_
                  exact Or.inr (Or.inr (Or.inl ⟨⟨by omega, by omega, by omega, by omega, by omega, by omega⟩, by omega, by omega, rfl, rfl⟩))
              ·
                refine x_iconst C dX7_event_100 ?_
                refine x_iret (ty := .boolean) C hQ dX7_event_101 rfl (by decide) (by decide) (by decide) ?_
                first | exact Or.inr (Or.inl ⟨⟨by omega, by omega, by omega, by omega, by omega, by omega⟩, by omega, rfl, rfl⟩) | exact Or.inr (Or.inr (Or.inr ⟨by omega, rfl, rfl⟩))

set_option maxRecDepth 100000 in
set_option maxHeartbeats 4000000 in
theorem k_X7_skew {l : Launch} {D : va_G} {cy : CY} (hst : l.stackTraces = false) {b : Nat → Nat} {t : Int} {M : MS} {dv its : Int} (hM : MI M) (hdv : -2147483648 ≤ dv ∧ dv ≤ 2147483647) (hits : -2147483648 ≤ its ∧ its ≤ 2147483647) : Ct l D cy yX7_skew (Cond.code yX7_skew cX7_skew 4 (some .int)) 1 22 0 0 (IM cy b) [vr (some (b 0)), vi dv, vi its] (t, M) (fun r q' => (((0 ≤ dv ∧ dv ≤ 9) ∧ (-600 ≤ its ∧ its ≤ 600)) ∧ r = .ok (some (vi (M 11 dv))) ∧ q' = (0, mset M 11 dv its)) ∨ (¬ (((0 ≤ dv ∧ dv ≤ 9) ∧ (-600 ≤ its ∧ its ≤ 600))) ∧ r = .ok (some (vi 0)) ∧ q' = (1, M))) := by
  refine Ct.of1 (own := RX7) hst (by decide) rfl (Nat.le_of_ble_eq_true rfl) (cat1 (vr_cat _) (cat1 (vi_cat _) (cat1 (vi_cat _) (cat0)))) ?_
  intro φ C hQ hn hR hl hD
  subst hl hD
  refine x_aload_n C dX7_skew_0 rfl rfl ?_
  refine x_iload_n C dX7_skew_1 rfl rfl ?_
  refine x_iconst C dX7_skew_2 ?_
  refine x_bipush C dX7_skew_3 (by decide) ?_
  refine x_callS C hR cb_X7_isIn u7_11 u7_10 (k_X7_isIn hst (by omega) (by omega) (by omega)) rfl (Nat.le_of_ble_eq_true rfl) rfl dX7_skew_5 (by decide) (by decide) (fun E x9 h9 => absurd h9.1 (by intro h; cases h)) (fun r9 x9 h9 => ?_)
  obtain ⟨e9, rfl⟩ := h9
  cases e9
  refine x_if_eq (tgt := 28) C dX7_skew_8 (by decide) (by first | omega | exact bi_rng _) (fun h8 => ?_) (fun h8 => ?_)
  ·
    replace h8 := bi_eq0.mp h8
    refine x_iconst C dX7_skew_28 ?_
    refine m_put (f := 0) C (by decide) u7_8 rfl rfl (by decide +kernel) (wsM_put0 _ _ _ _ _) dX7_skew_29 ?_
    refine x_aload_n C dX7_skew_32 rfl rfl ?_
    refine m_get (f := 0) C (by decide) u7_8 rfl rfl dX7_skew_33 ?_
    refine x_if_le (tgt := 41) C dX7_skew_36 (by decide) (by decide) (fun h => absurd h (by decide)) (fun _ => ?_)
    refine x_iconst C dX7_skew_39 ?_
    refine x_iret (ty := .int) C hQ dX7_skew_40 rfl rfl (by decide) (by decide) ?_
    first | exact Or.inl ⟨⟨by omega, by omega⟩, rfl, rfl⟩ | exact Or.inr ⟨by omega, rfl, rfl⟩
  ·
    replace h8 := bi_ne0.mp h8
    refine x_iload_n C dX7_skew_11 rfl rfl ?_
    refine x_sipush C dX7_skew_12 (by decide) ?_
    refine x_sipush C dX7_skew_15 (by decide) ?_
    refine x_callS C hR cb_X7_isIn u7_11 u7_10 (k_X7_isIn hst (by omega) (by omega) (by omega)) rfl (Nat.le_of_ble_eq_true rfl) rfl dX7_skew_18 (by decide) (by decide) (fun E x9 h9 => absurd h9.1 (by intro h; cases h)) (fun r9 x9 h9 => ?_)
    obtain ⟨e9, rfl⟩ := h9
    cases e9
    refine x_if_eq (tgt := 28) C dX7_skew_21 (by decide) (by first | omega | exact bi_rng _) (fun h21 => ?_) (fun h21 => ?_)
    ·
      replace h21 := bi_eq0.mp h21
      refine x_iconst C dX7_skew_28 ?_
      refine m_put (f := 0) C (by decide) u7_8 rfl rfl (by decide +kernel) (wsM_put0 _ _ _ _ _) dX7_skew_29 ?_
      refine x_aload_n C dX7_skew_32 rfl rfl ?_
      refine m_get (f := 0) C (by decide) u7_8 rfl rfl dX7_skew_33 ?_
      refine x_if_le (tgt := 41) C dX7_skew_36 (by decide) (by decide) (fun h => absurd h (by decide)) (fun _ => ?_)
      refine x_iconst C dX7_skew_39 ?_
      refine x_iret (ty := .int) C hQ dX7_skew_40 rfl rfl (by decide) (by decide) ?_
      first | exact Or.inl ⟨⟨by omega, by omega⟩, rfl, rfl⟩ | exact Or.inr ⟨by omega, rfl, rfl⟩
    ·
      replace h21 := bi_ne0.mp h21
      refine x_iconst C dX7_skew_24 ?_
      refine x_goto (tgt := 29) C dX7_skew_25 (by decide) ?_
      refine m_put (f := 0) C (by decide) u7_8 rfl rfl (by decide +kernel) (wsM_put0 _ _ _ _ _) dX7_skew_29 ?_
      refine x_aload_n C dX7_skew_32 rfl rfl ?_
      refine m_get (f := 0) C (by decide) u7_8 rfl rfl dX7_skew_33 ?_
      refine x_if_le (tgt := 41) C dX7_skew_36 (by decide) (by decide) (fun _ => ?_) (fun h => absurd h (by decide))
      refine x_aload_n C dX7_skew_41 rfl rfl ?_
      refine m_get (f := 11) C (by decide) u2_8 rfl rfl dX7_skew_42 ?_
      refine x_iload_n C dX7_skew_45 rfl rfl ?_
      refine m_iald (f := 11) (q0 := 9) (N := 10) C rfl (by decide) (by first | omega | exact bi_rng _) dX7_skew_46 ?_
      refine x_istore_n C dX7_skew_47 rfl (by rw [hn]; exact Nat.le_of_ble_eq_true rfl) ?_
      refine x_aload_n C dX7_skew_48 rfl rfl ?_
      refine m_get (f := 11) C (by decide) u2_8 rfl rfl dX7_skew_49 ?_
      refine x_iload_n C dX7_skew_52 rfl rfl ?_
      refine x_iload_n C dX7_skew_53 rfl rfl ?_
      refine m_iast (f := 11) (q0 := 9) (N := 10) C rfl (by decide) (by first | omega | exact bi_rng _) (wsM_st11 _ _ _ _ (by first | omega | exact bi_rng _) _) dX7_skew_54 ?_
      refine x_iload_n C dX7_skew_55 rfl rfl ?_
      refine x_iret (ty := .int) C hQ dX7_skew_56 rfl rfl (by decide) (by decide) ?_
      first | exact Or.inl ⟨⟨by omega, by omega⟩, rfl, rfl⟩ | exact Or.inr ⟨by omega, rfl, rfl⟩

set_option maxRecDepth 100000 in
set_option maxHeartbeats 4000000 in
theorem k_X7_share {l : Launch} {D : va_G} {cy : CY} (hst : l.stackTraces = false) {b : Nat → Nat} {t : Int} {M : MS} {dv is : Int} (hM : MI M) (hdv : -2147483648 ≤ dv ∧ dv ≤ 2147483647) (his : is = 0 ∨ is = 1) : Ct l D cy yX7_share (Cond.code yX7_share cX7_share 4 (some .boolean)) 1 22 0 0 (IM cy b) [vr (some (b 0)), vi dv, vi is] (t, M) (fun r q' => ((0 ≤ dv ∧ dv ≤ 9) ∧ r = .ok (some (vi (M 12 dv))) ∧ q' = (0, mset M 12 dv is)) ∨ (¬ ((0 ≤ dv ∧ dv ≤ 9)) ∧ r = .ok (some (vi 0)) ∧ q' = (1, M))) := by
  refine Ct.of1 (own := RX7) hst (by decide) rfl (Nat.le_of_ble_eq_true rfl) (cat1 (vr_cat _) (cat1 (vi_cat _) (cat1 (vi_cat _) (cat0)))) ?_
  intro φ C hQ hn hR hl hD
  subst hl hD
  refine x_aload_n C dX7_share_0 rfl rfl ?_
  refine x_iload_n C dX7_share_1 rfl rfl ?_
  refine x_iconst C dX7_share_2 ?_
  refine x_bipush C dX7_share_3 (by decide) ?_
  refine x_callS C hR cb_X7_isIn u7_11 u7_10 (k_X7_isIn hst (by omega) (by omega) (by omega)) rfl (Nat.le_of_ble_eq_true rfl) rfl dX7_share_5 (by decide) (by decide) (fun E x9 h9 => absurd h9.1 (by intro h; cases h)) (fun r9 x9 h9 => ?_)
  obtain ⟨e9, rfl⟩ := h9
  cases e9
  refine x_if_eq (tgt := 15) C dX7_share_8 (by decide) (by first | omega | exact bi_rng _) (fun h8 => ?_) (fun h8 => ?_)
  ·
    replace h8 := bi_eq0.mp h8
    refine x_iconst C dX7_share_15 ?_
    refine m_put (f := 0) C (by decide) u7_8 rfl rfl (by decide +kernel) (wsM_put0 _ _ _ _ _) dX7_share_16 ?_
    refine x_aload_n C dX7_share_19 rfl rfl ?_
    refine m_get (f := 0) C (by decide) u7_8 rfl rfl dX7_share_20 ?_
    refine x_if_le (tgt := 28) C dX7_share_23 (by decide) (by decide) (fun h => absurd h (by decide)) (fun _ => ?_)
    refine x_iconst C dX7_share_26 ?_
    refine x_iret (ty := .boolean) C hQ dX7_share_27 rfl (by decide) (by decide) (by decide) ?_
    first | exact Or.inl ⟨⟨by omega, by omega⟩, rfl, rfl⟩ | exact Or.inr ⟨by omega, rfl, rfl⟩
  ·
    replace h8 := bi_ne0.mp h8
    refine x_iconst C dX7_share_11 ?_
    refine x_goto (tgt := 16) C dX7_share_12 (by decide) ?_
    refine m_put (f := 0) C (by decide) u7_8 rfl rfl (by decide +kernel) (wsM_put0 _ _ _ _ _) dX7_share_16 ?_
    refine x_aload_n C dX7_share_19 rfl rfl ?_
    refine m_get (f := 0) C (by decide) u7_8 rfl rfl dX7_share_20 ?_
    refine x_if_le (tgt := 28) C dX7_share_23 (by decide) (by decide) (fun _ => ?_) (fun h => absurd h (by decide))
    refine x_aload_n C dX7_share_28 rfl rfl ?_
    refine m_get (f := 12) C (by decide) u2_9 rfl rfl dX7_share_29 ?_
    refine x_iload_n C dX7_share_32 rfl rfl ?_
    refine m_zald (f := 12) (q0 := 10) (N := 10) C rfl (by decide) (by first | omega | exact bi_rng _) dX7_share_33 ?_
    refine x_istore_n C dX7_share_34 rfl (by rw [hn]; exact Nat.le_of_ble_eq_true rfl) ?_
    refine x_aload_n C dX7_share_35 rfl rfl ?_
    refine m_get (f := 12) C (by decide) u2_9 rfl rfl dX7_share_36 ?_
    refine x_iload_n C dX7_share_39 rfl rfl ?_
    refine x_iload_n C dX7_share_40 rfl rfl ?_
    refine m_zast (f := 12) (q0 := 10) (N := 10) C rfl (by decide) (by first | omega | exact bi_rng _) (by first | omega | exact bi_rng _) (wsM_st12 _ _ _ _ (by first | omega | exact bi_rng _) _) dX7_share_41 ?_
    refine x_iload_n C dX7_share_42 rfl rfl ?_
    refine x_iret (ty := .boolean) C hQ dX7_share_43 rfl (nar_bi (hM.b12 _)) (by decide) (by decide) ?_
    first | exact Or.inl ⟨⟨by omega, by omega⟩, rfl, rfl⟩ | exact Or.inr ⟨by omega, rfl, rfl⟩

set_option maxRecDepth 100000 in
set_option maxHeartbeats 4000000 in
theorem k_X7_link {l : Launch} {D : va_G} {cy : CY} (hst : l.stackTraces = false) {b : Nat → Nat} {t : Int} {M : MS} {dv who is : Int} (hM : MI M) (hdv : -2147483648 ≤ dv ∧ dv ≤ 2147483647) (hwho : -2147483648 ≤ who ∧ who ≤ 2147483647) (his : is = 0 ∨ is = 1) : Ct l D cy yX7_link (Cond.code yX7_link cX7_link 5 (some .boolean)) 1 22 0 0 (IM cy b) [vr (some (b 0)), vi dv, vi who, vi is] (t, M) (fun r q' => (((0 ≤ dv ∧ dv ≤ 9) ∧ (0 ≤ who ∧ who ≤ 9)) ∧ r = .ok (some (vi (1 - M 13 (10 * dv + who)))) ∧ q' = (0, mset M 13 (10 * dv + who) (1 - is))) ∨ (¬ (((0 ≤ dv ∧ dv ≤ 9) ∧ (0 ≤ who ∧ who ≤ 9))) ∧ r = .ok (some (vi 0)) ∧ q' = (1, M))) := by
  refine Ct.of1 (own := RX7) hst (by decide) rfl (Nat.le_of_ble_eq_true rfl) (cat1 (vr_cat _) (cat1 (vi_cat _) (cat1 (vi_cat _) (cat1 (vi_cat _) (cat0))))) ?_
  intro φ C hQ hn hR hl hD
  subst hl hD
  have g13 := hM.b13 (10 * dv + who)
  refine x_aload_n C dX7_link_0 rfl rfl ?_
  refine x_iload_n C dX7_link_1 rfl rfl ?_
  refine x_iconst C dX7_link_2 ?_
  refine x_bipush C dX7_link_3 (by decide) ?_
  refine x_callS C hR cb_X7_isIn u7_11 u7_10 (k_X7_isIn hst (by omega) (by omega) (by omega)) rfl (Nat.le_of_ble_eq_true rfl) rfl dX7_link_5 (by decide) (by decide) (fun E x9 h9 => absurd h9.1 (by intro h; cases h)) (fun r9 x9 h9 => ?_)
  obtain ⟨e9, rfl⟩ := h9
  cases e9
  refine x_if_eq (tgt := 25) C dX7_link_8 (by decide) (by first | omega | exact bi_rng _) (fun h8 => ?_) (fun h8 => ?_)
  ·
    replace h8 := bi_eq0.mp h8
    refine x_iconst C dX7_link_25 ?_
    refine m_put (f := 0) C (by decide) u7_8 rfl rfl (by decide +kernel) (wsM_put0 _ _ _ _ _) dX7_link_26 ?_
    refine x_aload_n C dX7_link_29 rfl rfl ?_
    refine m_get (f := 0) C (by decide) u7_8 rfl rfl dX7_link_30 ?_
    refine x_if_le (tgt := 38) C dX7_link_33 (by decide) (by decide) (fun h => absurd h (by decide)) (fun _ => ?_)
    refine x_iconst C dX7_link_36 ?_
    refine x_iret (ty := .boolean) C hQ dX7_link_37 rfl (by decide) (by decide) (by decide) ?_
    first | exact Or.inr ⟨by omega, rfl, rfl⟩ | exact Or.inl ⟨⟨by omega, by omega⟩, rv (by omega), by first | rw [show (1 : Int) - is = 0 by omega] | rw [show (1 : Int) - is = 1 by omega]⟩
  ·
    replace h8 := bi_ne0.mp h8
    refine x_iload_n C dX7_link_11 rfl rfl ?_
    refine x_iconst C dX7_link_12 ?_
    refine x_bipush C dX7_link_13 (by decide) ?_
    refine x_callS C hR cb_X7_isIn u7_11 u7_10 (k_X7_isIn hst (by omega) (by omega) (by omega)) rfl (Nat.le_of_ble_eq_true rfl) rfl dX7_link_15 (by decide) (by decide) (fun E x9 h9 => absurd h9.1 (by intro h; cases h)) (fun r9 x9 h9 => ?_)
    obtain ⟨e9, rfl⟩ := h9
    cases e9
    refine x_if_eq (tgt := 25) C dX7_link_18 (by decide) (by first | omega | exact bi_rng _) (fun h18 => ?_) (fun h18 => ?_)
    ·
      replace h18 := bi_eq0.mp h18
      refine x_iconst C dX7_link_25 ?_
      refine m_put (f := 0) C (by decide) u7_8 rfl rfl (by decide +kernel) (wsM_put0 _ _ _ _ _) dX7_link_26 ?_
      refine x_aload_n C dX7_link_29 rfl rfl ?_
      refine m_get (f := 0) C (by decide) u7_8 rfl rfl dX7_link_30 ?_
      refine x_if_le (tgt := 38) C dX7_link_33 (by decide) (by decide) (fun h => absurd h (by decide)) (fun _ => ?_)
      refine x_iconst C dX7_link_36 ?_
      refine x_iret (ty := .boolean) C hQ dX7_link_37 rfl (by decide) (by decide) (by decide) ?_
      first | exact Or.inr ⟨by omega, rfl, rfl⟩ | exact Or.inl ⟨⟨by omega, by omega⟩, rv (by omega), by first | rw [show (1 : Int) - is = 0 by omega] | rw [show (1 : Int) - is = 1 by omega]⟩
    ·
      replace h18 := bi_ne0.mp h18
      refine x_iconst C dX7_link_21 ?_
      refine x_goto (tgt := 26) C dX7_link_22 (by decide) ?_
      refine m_put (f := 0) C (by decide) u7_8 rfl rfl (by decide +kernel) (wsM_put0 _ _ _ _ _) dX7_link_26 ?_
      refine x_aload_n C dX7_link_29 rfl rfl ?_
      refine m_get (f := 0) C (by decide) u7_8 rfl rfl dX7_link_30 ?_
      refine x_if_le (tgt := 38) C dX7_link_33 (by decide) (by decide) (fun _ => ?_) (fun h => absurd h (by decide))
      refine x_aload_n C dX7_link_38 rfl rfl ?_
      refine m_get (f := 13) C (by decide) u2_10 rfl rfl dX7_link_39 ?_
      refine x_bipush C dX7_link_42 (by decide) ?_
      refine x_iload_n C dX7_link_44 rfl rfl ?_
      refine x_imul C dX7_link_45 ?_
      refine x_iload_n C dX7_link_46 rfl rfl ?_
      refine x_iadd C dX7_link_47 ?_
      refine m_zald (f := 13) (q0 := 11) (N := 100) C rfl (by decide) (by first | omega | exact bi_rng _) dX7_link_48 ?_
      refine x_if_ne (tgt := 56) C dX7_link_49 (by decide) (by first | omega | exact bi_rng _) (fun h49 => ?_) (fun h49 => ?_)
      ·
        refine x_iconst C dX7_link_56 ?_
        refine x_istore C dX7_link_57 (by rw [hn]; exact Nat.le_of_ble_eq_true rfl) ?_
        refine x_aload_n C dX7_link_59 rfl rfl ?_
        refine m_get (f := 13) C (by decide) u2_10 rfl rfl dX7_link_60 ?_
        refine x_bipush C dX7_link_63 (by decide) ?_
        refine x_iload_n C dX7_link_65 rfl rfl ?_
        refine x_imul C dX7_link_66 ?_
        refine x_iload_n C dX7_link_67 rfl rfl ?_
        refine x_iadd C dX7_link_68 ?_
        refine x_iload_n C dX7_link_69 rfl rfl ?_
        refine x_if_ne (tgt := 77) C dX7_link_70 (by decide) (by first | omega | exact bi_rng _) (fun h70 => ?_) (fun h70 => ?_)
        ·
          refine x_iconst C dX7_link_77 ?_
          refine m_zast (f := 13) (q0 := 11) (N := 100) C rfl (by decide) (by first | omega | exact bi_rng _) (by decide) (wsM_st13 _ _ _ _ (by first | omega | exact bi_rng _) _) dX7_link_78 ?_
          refine x_iload C dX7_link_79 rfl ?_
          refine x_iret (ty := .boolean) C hQ dX7_link_81 rfl (by decide) (by decide) (by decide) ?_
          first | exact Or.inr ⟨by omega, rfl, rfl⟩ | exact Or.inl ⟨⟨by omega, by omega⟩, rv (by omega), by first | rw [show (1 : Int) - is = 0 by omega] | rw [show (1 : Int) - is = 1 by omega]⟩
        ·
          refine x_iconst C dX7_link_73 ?_
          refine x_goto (tgt := 78) C dX7_link_74 (by decide) ?_
          refine m_zast (f := 13) (q0 := 11) (N := 100) C rfl (by decide) (by first | omega | exact bi_rng _) (by decide) (wsM_st13 _ _ _ _ (by first | omega | exact bi_rng _) _) dX7_link_78 ?_
          refine x_iload C dX7_link_79 rfl ?_
          refine x_iret (ty := .boolean) C hQ dX7_link_81 rfl (by decide) (by decide) (by decide) ?_
          first | exact Or.inr ⟨by omega, rfl, rfl⟩ | exact Or.inl ⟨⟨by omega, by omega⟩, rv (by omega), by first | rw [show (1 : Int) - is = 0 by omega] | rw [show (1 : Int) - is = 1 by omega]⟩
      ·
        refine x_iconst C dX7_link_52 ?_
        refine x_goto (tgt := 57) C dX7_link_53 (by decide) ?_
        refine x_istore C dX7_link_57 (by rw [hn]; exact Nat.le_of_ble_eq_true rfl) ?_
        refine x_aload_n C dX7_link_59 rfl rfl ?_
        refine m_get (f := 13) C (by decide) u2_10 rfl rfl dX7_link_60 ?_
        refine x_bipush C dX7_link_63 (by decide) ?_
        refine x_iload_n C dX7_link_65 rfl rfl ?_
        refine x_imul C dX7_link_66 ?_
        refine x_iload_n C dX7_link_67 rfl rfl ?_
        refine x_iadd C dX7_link_68 ?_
        refine x_iload_n C dX7_link_69 rfl rfl ?_
        refine x_if_ne (tgt := 77) C dX7_link_70 (by decide) (by first | omega | exact bi_rng _) (fun h70 => ?_) (fun h70 => ?_)
        ·
          refine x_iconst C dX7_link_77 ?_
          refine m_zast (f := 13) (q0 := 11) (N := 100) C rfl (by decide) (by first | omega | exact bi_rng _) (by decide) (wsM_st13 _ _ _ _ (by first | omega | exact bi_rng _) _) dX7_link_78 ?_
          refine x_iload C dX7_link_79 rfl ?_
          refine x_iret (ty := .boolean) C hQ dX7_link_81 rfl (by decide) (by decide) (by decide) ?_
          first | exact Or.inr ⟨by omega, rfl, rfl⟩ | exact Or.inl ⟨⟨by omega, by omega⟩, rv (by omega), by first | rw [show (1 : Int) - is = 0 by omega] | rw [show (1 : Int) - is = 1 by omega]⟩
        ·
          refine x_iconst C dX7_link_73 ?_
          refine x_goto (tgt := 78) C dX7_link_74 (by decide) ?_
          refine m_zast (f := 13) (q0 := 11) (N := 100) C rfl (by decide) (by first | omega | exact bi_rng _) (by decide) (wsM_st13 _ _ _ _ (by first | omega | exact bi_rng _) _) dX7_link_78 ?_
          refine x_iload C dX7_link_79 rfl ?_
          refine x_iret (ty := .boolean) C hQ dX7_link_81 rfl (by decide) (by decide) (by decide) ?_
          first | exact Or.inr ⟨by omega, rfl, rfl⟩ | exact Or.inl ⟨⟨by omega, by omega⟩, rv (by omega), by first | rw [show (1 : Int) - is = 0 by omega] | rw [show (1 : Int) - is = 1 by omega]⟩

set_option maxRecDepth 100000 in
set_option maxHeartbeats 4000000 in
theorem k_X7_consent {l : Launch} {D : va_G} {cy : CY} (hst : l.stackTraces = false) {b : Nat → Nat} {t : Int} {M : MS} {node p frm is : Int} (hM : MI M) (hnode : -2147483648 ≤ node ∧ node ≤ 2147483647) (hp : -2147483648 ≤ p ∧ p ≤ 2147483647) (hfrm : -2147483648 ≤ frm ∧ frm ≤ 2147483647) (his : is = 0 ∨ is = 1) : Ct l D cy yX7_consent (Cond.code yX7_consent cX7_consent 6 (some .int)) 2 43 0 0 (IM cy b) [vr (some (b 0)), vi node, vi p, vi frm, vi is] (t, M) (fun r q' => (((0 ≤ node ∧ node ≤ 19) ∧ (0 ≤ p ∧ p ≤ 3) ∧ (0 ≤ frm ∧ frm ≤ M 1 0)) ∧ M 14 (4 * node + p) < 20 ∧ r = .ok (some (vi (M 14 (4 * node + p) + 1))) ∧ q' = (0, conM M (4 * node + p) frm is)) ∨ (((0 ≤ node ∧ node ≤ 19) ∧ (0 ≤ p ∧ p ≤ 3) ∧ (0 ≤ frm ∧ frm ≤ M 1 0)) ∧ M 14 (4 * node + p) = 20 ∧ r = .ok (some (vi 0)) ∧ q' = (2, M)) ∨ (¬ (((0 ≤ node ∧ node ≤ 19) ∧ (0 ≤ p ∧ p ≤ 3) ∧ (0 ≤ frm ∧ frm ≤ M 1 0))) ∧ r = .ok (some (vi 0)) ∧ q' = (1, M))) := by
  refine Ct.of1 (own := RX7) hst (by decide) rfl (Nat.le_of_ble_eq_true rfl) (cat1 (vr_cat _) (cat1 (vi_cat _) (cat1 (vi_cat _) (cat1 (vi_cat _) (cat1 (vi_cat _) (cat0)))))) ?_
  intro φ C hQ hn hR hl hD
  subst hl hD
  have g1 := hM.now
  refine x_aload_n C dX7_consent_0 rfl rfl ?_
  refine x_aload_n C dX7_consent_1 rfl rfl ?_
  refine x_iload_n C dX7_consent_2 rfl rfl ?_
  refine x_callV C hR cb_X7_isNode cv_X7_isNode u11_19 (k_X7_isNode hst (by omega)) m_recv ⟨_, _, rfl⟩ rfl (Nat.le_of_ble_eq_true rfl) rfl dX7_consent_3 (by decide) (by decide) (fun E x9 h9 => absurd h9.1 (by intro h; cases h)) (fun r9 x9 h9 => ?_)
  obtain ⟨e9, rfl⟩ := h9
  cases e9
  refine x_if_eq (tgt := 34) C dX7_consent_6 (by decide) (by first | omega | exact bi_rng _) (fun h6 => ?_) (fun h6 => ?_)
  ·
    replace h6 := bi_eq0.mp h6
    refine x_iconst C dX7_consent_34 ?_
    refine m_put (f := 0) C (by decide) u7_8 rfl rfl (by decide +kernel) (wsM_put0 _ _ _ _ _) dX7_consent_35 ?_
    refine x_aload_n C dX7_consent_38 rfl rfl ?_
    refine m_get (f := 0) C (by decide) u7_8 rfl rfl dX7_consent_39 ?_
    refine x_if_le (tgt := 47) C dX7_consent_42 (by decide) (by decide) (fun h => absurd h (by decide)) (fun _ => ?_)
    refine x_iconst C dX7_consent_45 ?_
    refine x_iret (ty := .int) C hQ dX7_consent_46 rfl rfl (by decide) (by decide) ?_
    exact Or.inr (Or.inr ⟨by omega, rfl, rfl⟩)
  ·
    replace h6 := bi_ne0.mp h6
    refine x_iload_n C dX7_consent_9 rfl rfl ?_
    refine x_iconst C dX7_consent_10 ?_
    refine x_iconst C dX7_consent_11 ?_
    refine x_callS C hR cb_X7_isIn u7_11 u7_10 (k_X7_isIn hst (by omega) (by omega) (by omega)) rfl (Nat.le_of_ble_eq_true rfl) rfl dX7_consent_12 (by decide) (by decide) (fun E x9 h9 => absurd h9.1 (by intro h; cases h)) (fun r9 x9 h9 => ?_)
    obtain ⟨e9, rfl⟩ := h9
    cases e9
    refine x_if_eq (tgt := 34) C dX7_consent_15 (by decide) (by first | omega | exact bi_rng _) (fun h15 => ?_) (fun h15 => ?_)
    ·
      replace h15 := bi_eq0.mp h15
      refine x_iconst C dX7_consent_34 ?_
      refine m_put (f := 0) C (by decide) u7_8 rfl rfl (by decide +kernel) (wsM_put0 _ _ _ _ _) dX7_consent_35 ?_
      refine x_aload_n C dX7_consent_38 rfl rfl ?_
      refine m_get (f := 0) C (by decide) u7_8 rfl rfl dX7_consent_39 ?_
      refine x_if_le (tgt := 47) C dX7_consent_42 (by decide) (by decide) (fun h => absurd h (by decide)) (fun _ => ?_)
      refine x_iconst C dX7_consent_45 ?_
      refine x_iret (ty := .int) C hQ dX7_consent_46 rfl rfl (by decide) (by decide) ?_
      exact Or.inr (Or.inr ⟨by omega, rfl, rfl⟩)
    ·
      replace h15 := bi_ne0.mp h15
      refine x_iload_n C dX7_consent_18 rfl rfl ?_
      refine x_iconst C dX7_consent_19 ?_
      refine x_aload_n C dX7_consent_20 rfl rfl ?_
      refine m_get (f := 1) C (by decide) u1_23 rfl rfl dX7_consent_21 ?_
      refine x_callS C hR cb_X7_isIn u7_11 u7_10 (k_X7_isIn hst (by omega) (by omega) (by omega)) rfl (Nat.le_of_ble_eq_true rfl) rfl dX7_consent_24 (by decide) (by decide) (fun E x9 h9 => absurd h9.1 (by intro h; cases h)) (fun r9 x9 h9 => ?_)
      obtain ⟨e9, rfl⟩ := h9
      cases e9
      refine x_if_eq (tgt := 34) C dX7_consent_27 (by decide) (by first | omega | exact bi_rng _) (fun h27 => ?_) (fun h27 => ?_)
      ·
        replace h27 := bi_eq0.mp h27
        refine x_iconst C dX7_consent_34 ?_
        refine m_put (f := 0) C (by decide) u7_8 rfl rfl (by decide +kernel) (wsM_put0 _ _ _ _ _) dX7_consent_35 ?_
        refine x_aload_n C dX7_consent_38 rfl rfl ?_
        refine m_get (f := 0) C (by decide) u7_8 rfl rfl dX7_consent_39 ?_
        refine x_if_le (tgt := 47) C dX7_consent_42 (by decide) (by decide) (fun h => absurd h (by decide)) (fun _ => ?_)
        refine x_iconst C dX7_consent_45 ?_
        refine x_iret (ty := .int) C hQ dX7_consent_46 rfl rfl (by decide) (by decide) ?_
        exact Or.inr (Or.inr ⟨by omega, rfl, rfl⟩)
      ·
        replace h27 := bi_ne0.mp h27
        refine x_iconst C dX7_consent_30 ?_
        refine x_goto (tgt := 35) C dX7_consent_31 (by decide) ?_
        refine m_put (f := 0) C (by decide) u7_8 rfl rfl (by decide +kernel) (wsM_put0 _ _ _ _ _) dX7_consent_35 ?_
        refine x_aload_n C dX7_consent_38 rfl rfl ?_
        refine m_get (f := 0) C (by decide) u7_8 rfl rfl dX7_consent_39 ?_
        refine x_if_le (tgt := 47) C dX7_consent_42 (by decide) (by decide) (fun _ => ?_) (fun h => absurd h (by decide))
        refine x_iconst C dX7_consent_47 ?_
        refine x_iload_n C dX7_consent_48 rfl rfl ?_
        refine x_imul C dX7_consent_49 ?_
        refine x_iload_n C dX7_consent_50 rfl rfl ?_
        refine x_iadd C dX7_consent_51 ?_
        refine x_istore C dX7_consent_52 (by rw [hn]; exact Nat.le_of_ble_eq_true rfl) ?_
        refine x_aload_n C dX7_consent_54 rfl rfl ?_
        refine x_aload_n C dX7_consent_55 rfl rfl ?_
        refine m_get (f := 14) C (by decide) u2_11 rfl rfl dX7_consent_56 ?_
        refine x_iload C dX7_consent_59 rfl ?_
        have g14 := hM.ch (4 * node + p) (by omega) (by omega)
        refine m_iald (f := 14) (q0 := 12) (N := 80) C rfl (by decide) (by first | omega | exact bi_rng _) dX7_consent_61 ?_
        refine x_bipush C dX7_consent_62 (by decide) ?_
        refine x_icmp_ne (tgt := 71) C dX7_consent_64 (by decide) (by first | omega | exact bi_rng _) (by first | omega | exact bi_rng _) (fun h64 => ?_) (fun h64 => ?_)
        ·
          refine x_iconst C dX7_consent_71 ?_
          refine m_put (f := 0) C (by decide) u7_8 rfl rfl (by decide +kernel) (wsM_put0 _ _ _ _ _) dX7_consent_72 ?_
          refine x_aload_n C dX7_consent_75 rfl rfl ?_
          refine m_get (f := 0) C (by decide) u7_8 rfl rfl dX7_consent_76 ?_
          refine x_if_le (tgt := 84) C dX7_consent_79 (by decide) (by decide) (fun _ => ?_) (fun h => absurd h (by decide))
          refine x_aload_n C dX7_consent_84 rfl rfl ?_
          refine m_get (f := 15) C (by decide) u2_12 rfl rfl dX7_consent_85 ?_
          refine x_bipush C dX7_consent_88 (by decide) ?_
          refine x_iload C dX7_consent_90 rfl ?_
          refine x_imul C dX7_consent_92 ?_
          refine x_aload_n C dX7_consent_93 rfl rfl ?_
          refine m_get (f := 14) C (by decide) u2_11 rfl rfl dX7_consent_94 ?_
          refine x_iload C dX7_consent_97 rfl ?_
          refine m_iald (f := 14) (q0 := 12) (N := 80) C rfl (by decide) (by first | omega | exact bi_rng _) dX7_consent_99 ?_
          refine x_iadd C dX7_consent_100 ?_
          refine x_iload_n C dX7_consent_101 rfl rfl ?_
          refine m_iast (f := 15) (q0 := 13) (N := 1600) C rfl (by decide) (by first | omega | exact bi_rng _) (wsM_st15 _ _ _ _ (by first | omega | exact bi_rng _) _) dX7_consent_102 ?_
          refine x_aload_n C dX7_consent_103 rfl rfl ?_
          refine m_get (f := 16) C (by decide) u2_13 rfl rfl dX7_consent_104 ?_
          refine x_bipush C dX7_consent_107 (by decide) ?_
          refine x_iload C dX7_consent_109 rfl ?_
          refine x_imul C dX7_consent_111 ?_
          refine x_aload_n C dX7_consent_112 rfl rfl ?_
          refine m_get (f := 14) C (by decide) u2_11 rfl rfl dX7_consent_113 ?_
          refine x_iload C dX7_consent_116 rfl ?_
          refine m_iald (f := 14) (q0 := 12) (N := 80) C rfl (by decide) (by first | omega | exact bi_rng _) dX7_consent_118 ?_
          change X φ _ _ _ _ _ (vi (M 14 _) :: _)
          refine x_iadd C dX7_consent_119 ?_
          refine x_iload C dX7_consent_120 rfl ?_
          refine m_zast (f := 16) (q0 := 14) (N := 1600) C rfl (by decide) (by first | omega | exact bi_rng _) (by first | omega | exact bi_rng _) (wsM_st16 _ _ _ _ (by first | omega | exact bi_rng _) _) dX7_consent_122 ?_
          refine x_aload_n C dX7_consent_123 rfl rfl ?_
          refine m_get (f := 14) C (by decide) u2_11 rfl rfl dX7_consent_124 ?_
          refine x_iload C dX7_consent_127 rfl ?_
          refine x_dup2 C dX7_consent_129 (by first | rfl | exact vr_cat _ | exact vi_cat _) (by first | rfl | exact vr_cat _ | exact vi_cat _) ?_
          refine m_iald (f := 14) (q0 := 12) (N := 80) C rfl (by decide) (by first | omega | exact bi_rng _) dX7_consent_130 ?_
          change X φ _ _ _ _ _ (vi (M 14 _) :: _)
          refine x_iconst C dX7_consent_131 ?_
          refine x_iadd C dX7_consent_132 ?_
          refine m_iast (f := 14) (q0 := 12) (N := 80) C rfl (by decide) (by first | omega | exact bi_rng _) (wsM_st14 _ _ _ _ (by first | omega | exact bi_rng _) _) dX7_consent_133 ?_
          refine x_aload_n C dX7_consent_134 rfl rfl ?_
          refine m_get (f := 14) C (by decide) u2_11 rfl rfl dX7_consent_135 ?_
          refine x_iload C dX7_consent_138 rfl ?_
          refine m_iald (f := 14) (q0 := 12) (N := 80) C rfl (by decide) (by first | omega | exact bi_rng _) dX7_consent_140 ?_
          refine x_iret (ty := .int) C hQ dX7_consent_141 rfl rfl (by decide) (by decide) ?_
          exact Or.inl ⟨⟨by omega, by omega, by omega⟩, by omega, by rw [mset_eq], rfl⟩
        ·
          refine x_iconst C dX7_consent_67 ?_
          refine x_goto (tgt := 72) C dX7_consent_68 (by decide) ?_
          refine m_put (f := 0) C (by decide) u7_8 rfl rfl (by decide +kernel) (wsM_put0 _ _ _ _ _) dX7_consent_72 ?_
          refine x_aload_n C dX7_consent_75 rfl rfl ?_
          refine m_get (f := 0) C (by decide) u7_8 rfl rfl dX7_consent_76 ?_
          refine x_if_le (tgt := 84) C dX7_consent_79 (by decide) (by decide) (fun h => absurd h (by decide)) (fun _ => ?_)
          refine x_iconst C dX7_consent_82 ?_
          refine x_iret (ty := .int) C hQ dX7_consent_83 rfl rfl (by decide) (by decide) ?_
          exact Or.inr (Or.inl ⟨⟨by omega, by omega, by omega⟩, by omega, rfl, rfl⟩)

set_option maxRecDepth 100000 in
set_option maxHeartbeats 4000000 in
theorem k_X7_group {l : Launch} {D : va_G} {cy : CY} (hst : l.stackTraces = false) {b : Nat → Nat} {t : Int} {M : MS} {p what least days : Int} (hM : MI M) (hp : -2147483648 ≤ p ∧ p ≤ 2147483647) (hwhat : -2147483648 ≤ what ∧ what ≤ 2147483647) (hleast : -2147483648 ≤ least ∧ least ≤ 2147483647) (hdays : -2147483648 ≤ days ∧ days ≤ 2147483647) : Ct l D cy yX7_group (Cond.code yX7_group cX7_group 6 (some .int)) 1 22 0 0 (IM cy b) [vr (some (b 0)), vi p, vi what, vi least, vi days] (t, M) (fun r q' => (((0 ≤ p ∧ p ≤ 3) ∧ (0 ≤ what ∧ what ≤ 4) ∧ (1 ≤ least ∧ least ≤ 20) ∧ (1 ≤ days ∧ days ≤ 30)) ∧ M 17 0 < 8 ∧ r = .ok (some (vi (M 17 0))) ∧ q' = (0, grpM M p what least days)) ∨ (((0 ≤ p ∧ p ≤ 3) ∧ (0 ≤ what ∧ what ≤ 4) ∧ (1 ≤ least ∧ least ≤ 20) ∧ (1 ≤ days ∧ days ≤ 30)) ∧ M 17 0 = 8 ∧ r = .ok (some (vi 0)) ∧ q' = (2, M)) ∨ (¬ (((0 ≤ p ∧ p ≤ 3) ∧ (0 ≤ what ∧ what ≤ 4) ∧ (1 ≤ least ∧ least ≤ 20) ∧ (1 ≤ days ∧ days ≤ 30))) ∧ r = .ok (some (vi 0)) ∧ q' = (1, M))) := by
  refine Ct.of1 (own := RX7) hst (by decide) rfl (Nat.le_of_ble_eq_true rfl) (cat1 (vr_cat _) (cat1 (vi_cat _) (cat1 (vi_cat _) (cat1 (vi_cat _) (cat1 (vi_cat _) (cat0)))))) ?_
  intro φ C hQ hn hR hl hD
  subst hl hD
  have g17 := hM.gn
  refine x_iload_n C dX7_group_0 rfl rfl ?_
  refine x_iconst C dX7_group_1 ?_
  refine x_iconst C dX7_group_2 ?_
  refine x_callS C hR cb_X7_isIn u7_11 u7_10 (k_X7_isIn hst (by omega) (by omega) (by omega)) rfl (Nat.le_of_ble_eq_true rfl) rfl dX7_group_3 (by decide) (by decide) (fun E x9 h9 => absurd h9.1 (by intro h; cases h)) (fun r9 x9 h9 => ?_)
  obtain ⟨e9, rfl⟩ := h9
  cases e9
  refine x_if_eq (tgt := 43) C dX7_group_6 (by decide) (by first | omega | exact bi_rng _) (fun h6 => ?_) (fun h6 => ?_)
  ·
    replace h6 := bi_eq0.mp h6
    refine x_iconst C dX7_group_43 ?_
    refine x_istore C dX7_group_44 (by rw [hn]; exact Nat.le_of_ble_eq_true rfl) ?_
    refine x_aload_n C dX7_group_46 rfl rfl ?_
    refine x_iload C dX7_group_47 rfl ?_
    refine x_if_ne (tgt := 56) C dX7_group_49 (by decide) (by decide) (fun h => absurd h (by decide)) (fun _ => ?_)
    refine x_iconst C dX7_group_52 ?_
    refine x_goto (tgt := 70) C dX7_group_53 (by decide) ?_
    refine m_put (f := 0) C (by decide) u7_8 rfl rfl (by decide +kernel) (wsM_put0 _ _ _ _ _) dX7_group_70 ?_
    refine x_aload_n C dX7_group_73 rfl rfl ?_
    refine m_get (f := 0) C (by decide) u7_8 rfl rfl dX7_group_74 ?_
    refine x_if_le (tgt := 82) C dX7_group_77 (by decide) (by decide) (fun h => absurd h (by decide)) (fun _ => ?_)
    refine x_iconst C dX7_group_80 ?_
    refine x_iret (ty := .int) C hQ dX7_group_81 rfl rfl (by decide) (by decide) ?_
    first | exact Or.inr (Or.inl ⟨⟨by omega, by omega, by omega, by omega⟩, by omega, rfl, rfl⟩) | exact Or.inr (Or.inr ⟨by omega, rfl, rfl⟩)
  ·
    replace h6 := bi_ne0.mp h6
    refine x_iload_n C dX7_group_9 rfl rfl ?_
    refine x_iconst C dX7_group_10 ?_
    refine x_iconst C dX7_group_11 ?_
    refine x_callS C hR cb_X7_isIn u7_11 u7_10 (k_X7_isIn hst (by omega) (by omega) (by omega)) rfl (Nat.le_of_ble_eq_true rfl) rfl dX7_group_12 (by decide) (by decide) (fun E x9 h9 => absurd h9.1 (by intro h; cases h)) (fun r9 x9 h9 => ?_)
    obtain ⟨e9, rfl⟩ := h9
    cases e9
    refine x_if_eq (tgt := 43) C dX7_group_15 (by decide) (by first | omega | exact bi_rng _) (fun h15 => ?_) (fun h15 => ?_)
    ·
      replace h15 := bi_eq0.mp h15
      refine x_iconst C dX7_group_43 ?_
      refine x_istore C dX7_group_44 (by rw [hn]; exact Nat.le_of_ble_eq_true rfl) ?_
      refine x_aload_n C dX7_group_46 rfl rfl ?_
      refine x_iload C dX7_group_47 rfl ?_
      refine x_if_ne (tgt := 56) C dX7_group_49 (by decide) (by decide) (fun h => absurd h (by decide)) (fun _ => ?_)
      refine x_iconst C dX7_group_52 ?_
      refine x_goto (tgt := 70) C dX7_group_53 (by decide) ?_
      refine m_put (f := 0) C (by decide) u7_8 rfl rfl (by decide +kernel) (wsM_put0 _ _ _ _ _) dX7_group_70 ?_
      refine x_aload_n C dX7_group_73 rfl rfl ?_
      refine m_get (f := 0) C (by decide) u7_8 rfl rfl dX7_group_74 ?_
      refine x_if_le (tgt := 82) C dX7_group_77 (by decide) (by decide) (fun h => absurd h (by decide)) (fun _ => ?_)
      refine x_iconst C dX7_group_80 ?_
      refine x_iret (ty := .int) C hQ dX7_group_81 rfl rfl (by decide) (by decide) ?_
      first | exact Or.inr (Or.inl ⟨⟨by omega, by omega, by omega, by omega⟩, by omega, rfl, rfl⟩) | exact Or.inr (Or.inr ⟨by omega, rfl, rfl⟩)
    ·
      replace h15 := bi_ne0.mp h15
      refine x_iload_n C dX7_group_18 rfl rfl ?_
      refine x_iconst C dX7_group_19 ?_
      refine x_bipush C dX7_group_20 (by decide) ?_
      refine x_callS C hR cb_X7_isIn u7_11 u7_10 (k_X7_isIn hst (by omega) (by omega) (by omega)) rfl (Nat.le_of_ble_eq_true rfl) rfl dX7_group_22 (by decide) (by decide) (fun E x9 h9 => absurd h9.1 (by intro h; cases h)) (fun r9 x9 h9 => ?_)
      obtain ⟨e9, rfl⟩ := h9
      cases e9
      refine x_if_eq (tgt := 43) C dX7_group_25 (by decide) (by first | omega | exact bi_rng _) (fun h25 => ?_) (fun h25 => ?_)
      ·
        replace h25 := bi_eq0.mp h25
        refine x_iconst C dX7_group_43 ?_
        refine x_istore C dX7_group_44 (by rw [hn]; exact Nat.le_of_ble_eq_true rfl) ?_
        refine x_aload_n C dX7_group_46 rfl rfl ?_
        refine x_iload C dX7_group_47 rfl ?_
        refine x_if_ne (tgt := 56) C dX7_group_49 (by decide) (by decide) (fun h => absurd h (by decide)) (fun _ => ?_)
        refine x_iconst C dX7_group_52 ?_
        refine x_goto (tgt := 70) C dX7_group_53 (by decide) ?_
        refine m_put (f := 0) C (by decide) u7_8 rfl rfl (by decide +kernel) (wsM_put0 _ _ _ _ _) dX7_group_70 ?_
        refine x_aload_n C dX7_group_73 rfl rfl ?_
        refine m_get (f := 0) C (by decide) u7_8 rfl rfl dX7_group_74 ?_
        refine x_if_le (tgt := 82) C dX7_group_77 (by decide) (by decide) (fun h => absurd h (by decide)) (fun _ => ?_)
        refine x_iconst C dX7_group_80 ?_
        refine x_iret (ty := .int) C hQ dX7_group_81 rfl rfl (by decide) (by decide) ?_
        first | exact Or.inr (Or.inl ⟨⟨by omega, by omega, by omega, by omega⟩, by omega, rfl, rfl⟩) | exact Or.inr (Or.inr ⟨by omega, rfl, rfl⟩)
      ·
        replace h25 := bi_ne0.mp h25
        refine x_iload C dX7_group_28 rfl ?_
        refine x_iconst C dX7_group_30 ?_
        refine x_bipush C dX7_group_31 (by decide) ?_
        refine x_callS C hR cb_X7_isIn u7_11 u7_10 (k_X7_isIn hst (by omega) (by omega) (by omega)) rfl (Nat.le_of_ble_eq_true rfl) rfl dX7_group_33 (by decide) (by decide) (fun E x9 h9 => absurd h9.1 (by intro h; cases h)) (fun r9 x9 h9 => ?_)
        obtain ⟨e9, rfl⟩ := h9
        cases e9
        refine x_if_eq (tgt := 43) C dX7_group_36 (by decide) (by first | omega | exact bi_rng _) (fun h36 => ?_) (fun h36 => ?_)
        ·
          replace h36 := bi_eq0.mp h36
          refine x_iconst C dX7_group_43 ?_
          refine x_istore C dX7_group_44 (by rw [hn]; exact Nat.le_of_ble_eq_true rfl) ?_
          refine x_aload_n C dX7_group_46 rfl rfl ?_
          refine x_iload C dX7_group_47 rfl ?_
          refine x_if_ne (tgt := 56) C dX7_group_49 (by decide) (by decide) (fun h => absurd h (by decide)) (fun _ => ?_)
          refine x_iconst C dX7_group_52 ?_
          refine x_goto (tgt := 70) C dX7_group_53 (by decide) ?_
          refine m_put (f := 0) C (by decide) u7_8 rfl rfl (by decide +kernel) (wsM_put0 _ _ _ _ _) dX7_group_70 ?_
          refine x_aload_n C dX7_group_73 rfl rfl ?_
          refine m_get (f := 0) C (by decide) u7_8 rfl rfl dX7_group_74 ?_
          refine x_if_le (tgt := 82) C dX7_group_77 (by decide) (by decide) (fun h => absurd h (by decide)) (fun _ => ?_)
          refine x_iconst C dX7_group_80 ?_
          refine x_iret (ty := .int) C hQ dX7_group_81 rfl rfl (by decide) (by decide) ?_
          first | exact Or.inr (Or.inl ⟨⟨by omega, by omega, by omega, by omega⟩, by omega, rfl, rfl⟩) | exact Or.inr (Or.inr ⟨by omega, rfl, rfl⟩)
        ·
          replace h36 := bi_ne0.mp h36
          refine x_iconst C dX7_group_39 ?_
          refine x_goto (tgt := 44) C dX7_group_40 (by decide) ?_
          refine x_istore C dX7_group_44 (by rw [hn]; exact Nat.le_of_ble_eq_true rfl) ?_
          refine x_aload_n C dX7_group_46 rfl rfl ?_
          refine x_iload C dX7_group_47 rfl ?_
          refine x_if_ne (tgt := 56) C dX7_group_49 (by decide) (by decide) (fun _ => ?_) (fun h => absurd h (by decide))
          refine x_aload_n C dX7_group_56 rfl rfl ?_
          refine m_get (f := 17) C (by decide) u13_6 rfl rfl dX7_group_57 ?_
          refine x_bipush C dX7_group_60 (by decide) ?_
          refine x_icmp_ne (tgt := 69) C dX7_group_62 (by decide) (by first | omega | exact bi_rng _) (by first | omega | exact bi_rng _) (fun h62 => ?_) (fun h62 => ?_)
          ·
            refine x_iconst C dX7_group_69 ?_
            refine m_put (f := 0) C (by decide) u7_8 rfl rfl (by decide +kernel) (wsM_put0 _ _ _ _ _) dX7_group_70 ?_
            refine x_aload_n C dX7_group_73 rfl rfl ?_
            refine m_get (f := 0) C (by decide) u7_8 rfl rfl dX7_group_74 ?_
            refine x_if_le (tgt := 82) C dX7_group_77 (by decide) (by decide) (fun _ => ?_) (fun h => absurd h (by decide))
            refine x_aload_n C dX7_group_82 rfl rfl ?_
            refine m_get (f := 18) C (by decide) u2_14 rfl rfl dX7_group_83 ?_
            refine x_aload_n C dX7_group_86 rfl rfl ?_
            refine m_get (f := 17) C (by decide) u13_6 rfl rfl dX7_group_87 ?_
            refine x_iload_n C dX7_group_90 rfl rfl ?_
            refine m_iast (f := 18) (q0 := 15) (N := 8) C rfl (by decide) (by first | omega | exact bi_rng _) (wsM_st18 _ _ _ _ (by first | omega | exact bi_rng _) _) dX7_group_91 ?_
            refine x_aload_n C dX7_group_92 rfl rfl ?_
            refine m_get (f := 19) C (by decide) u2_15 rfl rfl dX7_group_93 ?_
            refine x_aload_n C dX7_group_96 rfl rfl ?_
            refine m_get (f := 17) C (by decide) u13_6 rfl rfl dX7_group_97 ?_
            change X φ _ _ _ _ _ (vi (M 17 0) :: _)
            refine x_iload_n C dX7_group_100 rfl rfl ?_
            refine m_iast (f := 19) (q0 := 16) (N := 8) C rfl (by decide) (by first | omega | exact bi_rng _) (wsM_st19 _ _ _ _ (by first | omega | exact bi_rng _) _) dX7_group_101 ?_
            refine x_aload_n C dX7_group_102 rfl rfl ?_
            refine m_get (f := 20) C (by decide) u2_16 rfl rfl dX7_group_103 ?_
            refine x_aload_n C dX7_group_106 rfl rfl ?_
            refine m_get (f := 17) C (by decide) u13_6 rfl rfl dX7_group_107 ?_
            change X φ _ _ _ _ _ (vi (M 17 0) :: _)
            refine x_iload_n C dX7_group_110 rfl rfl ?_
            refine m_iast (f := 20) (q0 := 17) (N := 8) C rfl (by decide) (by first | omega | exact bi_rng _) (wsM_st20 _ _ _ _ (by first | omega | exact bi_rng _) _) dX7_group_111 ?_
            refine x_aload_n C dX7_group_112 rfl rfl ?_
            refine m_get (f := 21) C (by decide) u2_17 rfl rfl dX7_group_113 ?_
            refine x_aload_n C dX7_group_116 rfl rfl ?_
            refine m_get (f := 17) C (by decide) u13_6 rfl rfl dX7_group_117 ?_
            change X φ _ _ _ _ _ (vi (M 17 0) :: _)
            refine x_iload C dX7_group_120 rfl ?_
            refine m_iast (f := 21) (q0 := 18) (N := 8) C rfl (by decide) (by first | omega | exact bi_rng _) (wsM_st21 _ _ _ _ (by first | omega | exact bi_rng _) _) dX7_group_122 ?_
            refine x_aload_n C dX7_group_123 rfl rfl ?_
            refine x_dup C dX7_group_124 (by first | rfl | exact vr_cat _ | exact vi_cat _) ?_
            refine m_get (f := 17) C (by decide) u13_6 rfl rfl dX7_group_125 ?_
            change X φ _ _ _ _ _ (vi (M 17 0) :: _)
            refine x_iconst C dX7_group_128 ?_
            refine x_iadd C dX7_group_129 ?_
            refine m_put (f := 17) C (by decide) u13_6 rfl rfl (by decide +kernel) (wsM_put17 _ _ _ _ _) dX7_group_130 ?_
            refine x_aload_n C dX7_group_133 rfl rfl ?_
            refine m_get (f := 17) C (by decide) u13_6 rfl rfl dX7_group_134 ?_
            refine x_iconst C dX7_group_137 ?_
            refine x_isub C dX7_group_138 ?_
            refine x_iret (ty := .int) C hQ dX7_group_139 rfl rfl (by decide) (by decide) ?_
            exact Or.inl ⟨⟨by omega, by omega, by omega, by omega⟩, by omega, rv (by rw [mset_eq]; omega), rfl⟩
          ·
            refine x_iconst C dX7_group_65 ?_
            refine x_goto (tgt := 70) C dX7_group_66 (by decide) ?_
            refine m_put (f := 0) C (by decide) u7_8 rfl rfl (by decide +kernel) (wsM_put0 _ _ _ _ _) dX7_group_70 ?_
            refine x_aload_n C dX7_group_73 rfl rfl ?_
            refine m_get (f := 0) C (by decide) u7_8 rfl rfl dX7_group_74 ?_
            refine x_if_le (tgt := 82) C dX7_group_77 (by decide) (by decide) (fun h => absurd h (by decide)) (fun _ => ?_)
            refine x_iconst C dX7_group_80 ?_
            refine x_iret (ty := .int) C hQ dX7_group_81 rfl rfl (by decide) (by decide) ?_
            first | exact Or.inr (Or.inl ⟨⟨by omega, by omega, by omega, by omega⟩, by omega, rfl, rfl⟩) | exact Or.inr (Or.inr ⟨by omega, rfl, rfl⟩)

set_option maxRecDepth 100000 in
set_option maxHeartbeats 4000000 in
theorem k_X7_pass {l : Launch} {D : va_G} {cy : CY} (hst : l.stackTraces = false) {b : Nat → Nat} {t : Int} {M : MS} {mi : Int} (hM : MI M) (hmi : -2147483648 ≤ mi ∧ mi ≤ 2147483647) : Ct l D cy yX7_pass (Cond.code yX7_pass cX7_pass 2 (some .int)) 1 22 0 0 (IM cy b) [vr (some (b 0)), vi mi] (t, M) (fun r q' => ((1 ≤ mi ∧ mi ≤ 20000) ∧ M 1 0 + mi ≤ 100000 ∧ r = .ok (some (vi (M 1 0 + mi))) ∧ q' = (0, mset M 1 0 (M 1 0 + mi))) ∨ ((1 ≤ mi ∧ mi ≤ 20000) ∧ 100000 < M 1 0 + mi ∧ r = .ok (some (vi 0)) ∧ q' = (2, M)) ∨ (¬ (1 ≤ mi ∧ mi ≤ 20000) ∧ r = .ok (some (vi 0)) ∧ q' = (1, M))) := by
  refine Ct.of1 (own := RX7) hst (by decide) rfl (Nat.le_of_ble_eq_true rfl) (cat1 (vr_cat _) (cat1 (vi_cat _) (cat0))) ?_
  intro φ C hQ hn hR hl hD
  subst hl hD
  have g1 := hM.now
  refine x_aload_n C dX7_pass_0 rfl rfl ?_
  refine x_iload_n C dX7_pass_1 rfl rfl ?_
  refine x_iconst C dX7_pass_2 ?_
  refine x_sipush C dX7_pass_3 (by decide) ?_
  refine x_callS C hR cb_X7_isIn u7_11 u7_10 (k_X7_isIn hst (by omega) (by omega) (by omega)) rfl (Nat.le_of_ble_eq_true rfl) rfl dX7_pass_6 (by decide) (by decide) (fun E x9 h9 => absurd h9.1 (by intro h; cases h)) (fun r9 x9 h9 => ?_)
  obtain ⟨e9, rfl⟩ := h9
  cases e9
  refine x_if_ne (tgt := 16) C dX7_pass_9 (by decide) (by first | omega | exact bi_rng _) (fun h9 => ?_) (fun h9 => ?_)
  ·
    replace h9 := bi_ne0.mp h9
    refine x_aload_n C dX7_pass_16 rfl rfl ?_
    refine m_get (f := 1) C (by decide) u1_23 rfl rfl dX7_pass_17 ?_
    refine x_iload_n C dX7_pass_20 rfl rfl ?_
    refine x_iadd C dX7_pass_21 ?_
    refine x_ldc (z := 100000) C u7_7 (by decide) dX7_pass_22 ?_
    refine x_icmp_le (tgt := 31) C dX7_pass_24 (by decide) (by first | omega | exact bi_rng _) (by first | omega | exact bi_rng _) (fun h24 => ?_) (fun h24 => ?_)
    ·
      refine x_iconst C dX7_pass_31 ?_
      refine m_put (f := 0) C (by decide) u7_8 rfl rfl (by decide +kernel) (wsM_put0 _ _ _ _ _) dX7_pass_32 ?_
      refine x_aload_n C dX7_pass_35 rfl rfl ?_
      refine x_dup C dX7_pass_36 (by first | rfl | exact vr_cat _ | exact vi_cat _) ?_
      refine m_get (f := 1) C (by decide) u1_23 rfl rfl dX7_pass_37 ?_
      refine x_aload_n C dX7_pass_40 rfl rfl ?_
      refine m_get (f := 0) C (by decide) u7_8 rfl rfl dX7_pass_41 ?_
      refine x_if_le (tgt := 51) C dX7_pass_44 (by decide) (by decide) (fun _ => ?_) (fun h => absurd h (by decide))
      refine x_iload_n C dX7_pass_51 rfl rfl ?_
      refine x_iadd C dX7_pass_52 ?_
      refine m_put (f := 1) C (by decide) u1_23 rfl rfl (by decide +kernel) (wsM_put1 _ _ _ _ _) dX7_pass_53 ?_
      refine x_aload_n C dX7_pass_56 rfl rfl ?_
      refine m_get (f := 0) C (by decide) u7_8 rfl rfl dX7_pass_57 ?_
      refine x_if_le (tgt := 67) C dX7_pass_60 (by decide) (by decide) (fun _ => ?_) (fun h => absurd h (by decide))
      refine x_aload_n C dX7_pass_67 rfl rfl ?_
      refine m_get (f := 1) C (by decide) u1_23 rfl rfl dX7_pass_68 ?_
      refine x_iret (ty := .int) C hQ dX7_pass_71 rfl rfl (by decide) (by decide) ?_
      first | exact Or.inl ⟨by omega, by omega, by rw [mset_eq], rfl⟩ | exact Or.inr (Or.inl ⟨by omega, by omega, rfl, by rw [mset_self M 1 0 _ (by omega)]⟩) | exact Or.inr (Or.inr ⟨by omega, rfl, by rw [mset_self M 1 0 _ (by omega)]⟩)
    ·
      refine x_iconst C dX7_pass_27 ?_
      refine x_goto (tgt := 32) C dX7_pass_28 (by decide) ?_
      refine m_put (f := 0) C (by decide) u7_8 rfl rfl (by decide +kernel) (wsM_put0 _ _ _ _ _) dX7_pass_32 ?_
      refine x_aload_n C dX7_pass_35 rfl rfl ?_
      refine x_dup C dX7_pass_36 (by first | rfl | exact vr_cat _ | exact vi_cat _) ?_
      refine m_get (f := 1) C (by decide) u1_23 rfl rfl dX7_pass_37 ?_
      refine x_aload_n C dX7_pass_40 rfl rfl ?_
      refine m_get (f := 0) C (by decide) u7_8 rfl rfl dX7_pass_41 ?_
      refine x_if_le (tgt := 51) C dX7_pass_44 (by decide) (by decide) (fun h => absurd h (by decide)) (fun _ => ?_)
      refine x_iconst C dX7_pass_47 ?_
      refine x_goto (tgt := 52) C dX7_pass_48 (by decide) ?_
      refine x_iadd C dX7_pass_52 ?_
      refine m_put (f := 1) C (by decide) u1_23 rfl rfl (by decide +kernel) (wsM_put1 _ _ _ _ _) dX7_pass_53 ?_
      refine x_aload_n C dX7_pass_56 rfl rfl ?_
      refine m_get (f := 0) C (by decide) u7_8 rfl rfl dX7_pass_57 ?_
      refine x_if_le (tgt := 67) C dX7_pass_60 (by decide) (by decide) (fun h => absurd h (by decide)) (fun _ => ?_)
      refine x_iconst C dX7_pass_63 ?_
      refine x_goto (tgt := 71) C dX7_pass_64 (by decide) ?_
      refine x_iret (ty := .int) C hQ dX7_pass_71 rfl rfl (by decide) (by decide) ?_
      first | exact Or.inl ⟨by omega, by omega, by rw [mset_eq], rfl⟩ | exact Or.inr (Or.inl ⟨by omega, by omega, rfl, by rw [mset_self M 1 0 _ (by omega)]⟩) | exact Or.inr (Or.inr ⟨by omega, rfl, by rw [mset_self M 1 0 _ (by omega)]⟩)
  ·
    replace h9 := bi_eq0.mp h9
    refine x_iconst C dX7_pass_12 ?_
    refine x_goto (tgt := 32) C dX7_pass_13 (by decide) ?_
    refine m_put (f := 0) C (by decide) u7_8 rfl rfl (by decide +kernel) (wsM_put0 _ _ _ _ _) dX7_pass_32 ?_
    refine x_aload_n C dX7_pass_35 rfl rfl ?_
    refine x_dup C dX7_pass_36 (by first | rfl | exact vr_cat _ | exact vi_cat _) ?_
    refine m_get (f := 1) C (by decide) u1_23 rfl rfl dX7_pass_37 ?_
    refine x_aload_n C dX7_pass_40 rfl rfl ?_
    refine m_get (f := 0) C (by decide) u7_8 rfl rfl dX7_pass_41 ?_
    refine x_if_le (tgt := 51) C dX7_pass_44 (by decide) (by decide) (fun h => absurd h (by decide)) (fun _ => ?_)
    refine x_iconst C dX7_pass_47 ?_
    refine x_goto (tgt := 52) C dX7_pass_48 (by decide) ?_
    refine x_iadd C dX7_pass_52 ?_
    refine m_put (f := 1) C (by decide) u1_23 rfl rfl (by decide +kernel) (wsM_put1 _ _ _ _ _) dX7_pass_53 ?_
    refine x_aload_n C dX7_pass_56 rfl rfl ?_
    refine m_get (f := 0) C (by decide) u7_8 rfl rfl dX7_pass_57 ?_
    refine x_if_le (tgt := 67) C dX7_pass_60 (by decide) (by decide) (fun h => absurd h (by decide)) (fun _ => ?_)
    refine x_iconst C dX7_pass_63 ?_
    refine x_goto (tgt := 71) C dX7_pass_64 (by decide) ?_
    refine x_iret (ty := .int) C hQ dX7_pass_71 rfl rfl (by decide) (by decide) ?_
    first | exact Or.inl ⟨by omega, by omega, by rw [mset_eq], rfl⟩ | exact Or.inr (Or.inl ⟨by omega, by omega, rfl, by rw [mset_self M 1 0 _ (by omega)]⟩) | exact Or.inr (Or.inr ⟨by omega, rfl, by rw [mset_self M 1 0 _ (by omega)]⟩)

set_option maxRecDepth 100000 in
set_option maxHeartbeats 4000000 in
theorem k_X7_told {l : Launch} {D : va_G} {cy : CY} (hst : l.stackTraces = false) {b : Nat → Nat} {t : Int} {M : MS} {pl : Int} (hM : MI M) (hpl : -2147483648 ≤ pl ∧ pl ≤ 2147483647) : Ct l D cy yX7_told (Cond.code yX7_told cX7_told 2 (some .int)) 1 22 0 0 (IM cy b) [vr (some (b 0)), vi pl] (t, M) (fun r q' => ((0 ≤ pl ∧ pl < M 24 0) ∧ r = .ok (some (vi (M 25 pl))) ∧ q' = (0, M)) ∨ (¬ (0 ≤ pl ∧ pl < M 24 0) ∧ r = .ok (some (vi 0)) ∧ q' = (1, M))) := by
  refine Ct.of1 (own := RX7) hst (by decide) rfl (Nat.le_of_ble_eq_true rfl) (cat1 (vr_cat _) (cat1 (vi_cat _) (cat0))) ?_
  intro φ C hQ hn hR hl hD
  subst hl hD
  have g24 := hM.told
  refine x_aload_n C dX7_told_0 rfl rfl ?_
  refine x_iload_n C dX7_told_1 rfl rfl ?_
  refine x_iconst C dX7_told_2 ?_
  refine x_aload_n C dX7_told_3 rfl rfl ?_
  refine m_get (f := 24) C (by decide) u24_12 rfl rfl dX7_told_4 ?_
  refine x_iconst C dX7_told_7 ?_
  refine x_isub C dX7_told_8 ?_
  refine x_callS C hR cb_X7_isIn u7_11 u7_10 (k_X7_isIn hst (by omega) (by omega) (by omega)) rfl (Nat.le_of_ble_eq_true rfl) rfl dX7_told_9 (by decide) (by decide) (fun E x9 h9 => absurd h9.1 (by intro h; cases h)) (fun r9 x9 h9 => ?_)
  obtain ⟨e9, rfl⟩ := h9
  cases e9
  refine x_if_eq (tgt := 19) C dX7_told_12 (by decide) (by first | omega | exact bi_rng _) (fun h12 => ?_) (fun h12 => ?_)
  ·
    replace h12 := bi_eq0.mp h12
    refine x_iconst C dX7_told_19 ?_
    refine m_put (f := 0) C (by decide) u7_8 rfl rfl (by decide +kernel) (wsM_put0 _ _ _ _ _) dX7_told_20 ?_
    refine x_aload_n C dX7_told_23 rfl rfl ?_
    refine m_get (f := 0) C (by decide) u7_8 rfl rfl dX7_told_24 ?_
    refine x_if_le (tgt := 34) C dX7_told_27 (by decide) (by decide) (fun h => absurd h (by decide)) (fun _ => ?_)
    refine x_iconst C dX7_told_30 ?_
    refine x_goto (tgt := 40) C dX7_told_31 (by decide) ?_
    refine x_iret (ty := .int) C hQ dX7_told_40 rfl rfl (by decide) (by decide) ?_
    first | exact Or.inl ⟨by omega, rfl, rfl⟩ | exact Or.inr ⟨by omega, rfl, rfl⟩
  ·
    replace h12 := bi_ne0.mp h12
    refine x_iconst C dX7_told_15 ?_
    refine x_goto (tgt := 20) C dX7_told_16 (by decide) ?_
    refine m_put (f := 0) C (by decide) u7_8 rfl rfl (by decide +kernel) (wsM_put0 _ _ _ _ _) dX7_told_20 ?_
    refine x_aload_n C dX7_told_23 rfl rfl ?_
    refine m_get (f := 0) C (by decide) u7_8 rfl rfl dX7_told_24 ?_
    refine x_if_le (tgt := 34) C dX7_told_27 (by decide) (by decide) (fun _ => ?_) (fun h => absurd h (by decide))
    refine x_aload_n C dX7_told_34 rfl rfl ?_
    refine m_get (f := 25) C (by decide) u2_20 rfl rfl dX7_told_35 ?_
    refine x_iload_n C dX7_told_38 rfl rfl ?_
    refine m_iald (f := 25) (q0 := 21) (N := 160) C rfl (by decide) (by first | omega | exact bi_rng _) dX7_told_39 ?_
    refine x_iret (ty := .int) C hQ dX7_told_40 rfl rfl (by decide) (by decide) ?_
    first | exact Or.inl ⟨by omega, rfl, rfl⟩ | exact Or.inr ⟨by omega, rfl, rfl⟩

set_option maxRecDepth 100000 in
set_option maxHeartbeats 4000000 in
theorem k_X7_toldInAll {l : Launch} {D : va_G} {cy : CY} (hst : l.stackTraces = false) {b : Nat → Nat} {t : Int} {M : MS}  (hM : MI M) : Ct l D cy yX7_toldInAll (Cond.code yX7_toldInAll cX7_toldInAll 1 (some .int)) 0 0 0 0 (IM cy b) [vr (some (b 0))] (t, M) (fun r q' => r = .ok (some (vi (M 26 0))) ∧ q' = (0, M)) := by
  refine Ct.of1 (own := RX7) hst (by decide) rfl (Nat.le_of_ble_eq_true rfl) (cat1 (vr_cat _) (cat0)) ?_
  intro φ C hQ hn hR hl hD
  subst hl hD
  refine x_aload_n C dX7_toldInAll_0 rfl rfl ?_
  refine x_iconst C dX7_toldInAll_1 ?_
  refine m_put (f := 0) C (by decide) u7_8 rfl rfl (by decide +kernel) (wsM_put0 _ _ _ _ _) dX7_toldInAll_2 ?_
  refine x_aload_n C dX7_toldInAll_5 rfl rfl ?_
  refine m_get (f := 26) C (by decide) u24_13 rfl rfl dX7_toldInAll_6 ?_
  refine x_iret (ty := .int) C hQ dX7_toldInAll_9 rfl rfl (by decide) (by decide) ?_
  exact ⟨rfl, rfl⟩

set_option maxRecDepth 100000 in
set_option maxHeartbeats 4000000 in
theorem k_X7_profile {l : Launch} {D : va_G} {cy : CY} (hst : l.stackTraces = false) {b : Nat → Nat} {t : Int} {M : MS} {node : Int} (hM : MI M) (hnode : -2147483648 ≤ node ∧ node ≤ 2147483647) : Ct l D cy yX7_profile (Cond.code yX7_profile cX7_profile 2 (some .int)) 2 46 0 0 (IM cy b) [vr (some (b 0)), vi node] (t, M) (fun r q' => ((0 ≤ node ∧ node ≤ 19) ∧ (∃ M1, Fnd M M1 ∧ r = .ok (some (vi (M1 27 node))) ∧ q' = (0, M1))) ∨ (¬ ((0 ≤ node ∧ node ≤ 19)) ∧ r = .ok (some (vi 0)) ∧ q' = (1, M))) := by
  refine Ct.of1 (own := RX7) hst (by decide) rfl (Nat.le_of_ble_eq_true rfl) (cat1 (vr_cat _) (cat1 (vi_cat _) (cat0))) ?_
  intro φ C hQ hn hR hl hD
  subst hl hD
  refine x_aload_n C dX7_profile_0 rfl rfl ?_
  refine x_aload_n C dX7_profile_1 rfl rfl ?_
  refine x_iload_n C dX7_profile_2 rfl rfl ?_
  refine x_callV C hR cb_X7_isNode cv_X7_isNode u11_19 (k_X7_isNode hst (by omega)) m_recv ⟨_, _, rfl⟩ rfl (Nat.le_of_ble_eq_true rfl) rfl dX7_profile_3 (by decide) (by decide) (fun E x9 h9 => absurd h9.1 (by intro h; cases h)) (fun r9 x9 h9 => ?_)
  obtain ⟨e9, rfl⟩ := h9
  cases e9
  refine x_if_eq (tgt := 13) C dX7_profile_6 (by decide) (by first | omega | exact bi_rng _) (fun h6 => ?_) (fun h6 => ?_)
  ·
    replace h6 := bi_eq0.mp h6
    refine x_iconst C dX7_profile_13 ?_
    refine m_put (f := 0) C (by decide) u7_8 rfl rfl (by decide +kernel) (wsM_put0 _ _ _ _ _) dX7_profile_14 ?_
    refine x_aload_n C dX7_profile_17 rfl rfl ?_
    refine m_get (f := 0) C (by decide) u7_8 rfl rfl dX7_profile_18 ?_
    refine x_if_le (tgt := 26) C dX7_profile_21 (by decide) (by decide) (fun h => absurd h (by decide)) (fun _ => ?_)
    refine x_iconst C dX7_profile_24 ?_
    refine x_iret (ty := .int) C hQ dX7_profile_25 rfl rfl (by decide) (by decide) ?_
    first | exact Or.inl ⟨⟨by omega, by omega⟩, M1, hF, rfl, rfl⟩ | exact Or.inr ⟨by omega, rfl, rfl⟩
  ·
    replace h6 := bi_ne0.mp h6
    refine x_iconst C dX7_profile_9 ?_
    refine x_goto (tgt := 14) C dX7_profile_10 (by decide) ?_
    refine m_put (f := 0) C (by decide) u7_8 rfl rfl (by decide +kernel) (wsM_put0 _ _ _ _ _) dX7_profile_14 ?_
    refine x_aload_n C dX7_profile_17 rfl rfl ?_
    refine m_get (f := 0) C (by decide) u7_8 rfl rfl dX7_profile_18 ?_
    refine x_if_le (tgt := 26) C dX7_profile_21 (by decide) (by decide) (fun _ => ?_) (fun h => absurd h (by decide))
    refine x_aload_n C dX7_profile_26 rfl rfl ?_
    refine x_callV C hR cb_X7_finds cv_X7_finds u14_11 (k_X7_finds hst hM) m_recv ⟨_, _, rfl⟩ rfl (Nat.le_of_ble_eq_true rfl) rfl dX7_profile_27 (by decide) (by decide) (fun E x9 h9 => absurd h9.1 (by intro h; cases h)) (fun r9 x9 h9 => ?_)
    obtain ⟨e9, M1, hs1, hlo1, rfl⟩ := h9
    cases e9
    have hF : Fnd M M1 := ⟨hs1, hlo1⟩
    have hM1 := hF.MI hM
    have hn1 : M1 2 0 = M 2 0 := by rw [hs1 2 (by decide)]
    refine x_aload_n C dX7_profile_30 rfl rfl ?_
    refine m_get (f := 27) C (by decide) u2_21 rfl rfl dX7_profile_31 ?_
    refine x_iload_n C dX7_profile_34 rfl rfl ?_
    refine m_iald (f := 27) (q0 := 22) (N := 20) C rfl (by decide) (by first | omega | exact bi_rng _) dX7_profile_35 ?_
    refine x_iret (ty := .int) C hQ dX7_profile_36 rfl rfl (by decide) (by decide) ?_
    first | exact Or.inl ⟨⟨by omega, by omega⟩, M1, hF, rfl, rfl⟩ | exact Or.inr ⟨by omega, rfl, rfl⟩

set_option maxRecDepth 100000 in
set_option maxHeartbeats 4000000 in
theorem k_X7_profileAnew {l : Launch} {D : va_G} {cy : CY} (hst : l.stackTraces = false) {b : Nat → Nat} {t : Int} {M : MS} {node : Int} (hM : MI M) (hnode : -2147483648 ≤ node ∧ node ≤ 2147483647) : Ct l D cy yX7_profileAnew (Cond.code yX7_profileAnew cX7_profileAnew 2 (some .int)) 3 67 0 0 (IM cy b) [vr (some (b 0)), vi node] (t, M) (fun r q' => ((0 ≤ node ∧ node ≤ 19) ∧ (∃ M1, Fnd M M1 ∧ r = .ok (some (vi (M1 27 node))) ∧ q' = (0, M1))) ∨ (¬ ((0 ≤ node ∧ node ≤ 19)) ∧ r = .ok (some (vi 0)) ∧ q' = (1, M))) := by
  refine Ct.of1 (own := RX7) hst (by decide) rfl (Nat.le_of_ble_eq_true rfl) (cat1 (vr_cat _) (cat1 (vi_cat _) (cat0))) ?_
  intro φ C hQ hn hR hl hD
  subst hl hD
  refine x_aload_n C dX7_profileAnew_0 rfl rfl ?_
  refine x_iload_n C dX7_profileAnew_1 rfl rfl ?_
  refine x_callV C hR cb_X7_profile cv_X7_profile u16_12 (k_X7_profile hst hM hnode) m_recv ⟨_, _, rfl⟩ rfl (Nat.le_of_ble_eq_true rfl) rfl dX7_profileAnew_2 (by decide) (by decide) (fun E x9 h9 => by rcases h9 with ⟨-, M1, -, h, -⟩ | ⟨-, h, -⟩ <;> cases h) (fun r9 x9 h9 => ?_)
  rcases h9 with ⟨⟨z1, z2⟩, M1, hF, e9, rfl⟩ | ⟨z1, e9, rfl⟩ <;> cases e9
  · refine x_iret (ty := .int) C hQ dX7_profileAnew_5 rfl rfl (by decide) (by decide) ?_
    exact Or.inl ⟨⟨z1, z2⟩, M1, hF, rfl, rfl⟩
  · refine x_iret (ty := .int) C hQ dX7_profileAnew_5 rfl rfl (by decide) (by decide) ?_
    exact Or.inr ⟨z1, rfl, rfl⟩

set_option maxRecDepth 100000 in
set_option maxHeartbeats 4000000 in
theorem k_X7_counted {l : Launch} {D : va_G} {cy : CY} (hst : l.stackTraces = false) {b : Nat → Nat} {t : Int} {M : MS} {node p what minute days : Int} (hM : MI M) (hnode : -2147483648 ≤ node ∧ node ≤ 2147483647) (hp : -2147483648 ≤ p ∧ p ≤ 2147483647) (hwhat : -2147483648 ≤ what ∧ what ≤ 2147483647) (hminute : -2147483648 ≤ minute ∧ minute ≤ 2147483647) (hdays : -2147483648 ≤ days ∧ days ≤ 2147483647) : Ct l D cy yX7_counted (Cond.code yX7_counted cX7_counted 6 (some .int)) 3 77 0 0 (IM cy b) [vr (some (b 0)), vi node, vi p, vi what, vi minute, vi days] (t, M) (fun r q' => ((((0 ≤ node ∧ node ≤ 19) ∧ (0 ≤ p ∧ p ≤ 3) ∧ (0 ≤ what ∧ what ≤ 4) ∧ (0 ≤ minute ∧ minute ≤ 100000) ∧ (1 ≤ days ∧ days ≤ 30))) ∧ (∃ M1, Fnd M M1 ∧ r = .ok (some (vi (sumF M1 node p what minute days (M1 2 0).toNat))) ∧ q' = (0, M1))) ∨ (¬ (((0 ≤ node ∧ node ≤ 19) ∧ (0 ≤ p ∧ p ≤ 3) ∧ (0 ≤ what ∧ what ≤ 4) ∧ (0 ≤ minute ∧ minute ≤ 100000) ∧ (1 ≤ days ∧ days ≤ 30))) ∧ r = .ok (some (vi 0)) ∧ q' = (1, M))) := by
  refine Ct.of1 (own := RX7) hst (by decide) rfl (Nat.le_of_ble_eq_true rfl) (cat1 (vr_cat _) (cat1 (vi_cat _) (cat1 (vi_cat _) (cat1 (vi_cat _) (cat1 (vi_cat _) (cat1 (vi_cat _) (cat0))))))) ?_
  intro φ C hQ hn hR hl hD
  subst hl hD
  refine x_aload_n C dX7_counted_0 rfl rfl ?_
  refine x_aload_n C dX7_counted_1 rfl rfl ?_
  refine x_iload_n C dX7_counted_2 rfl rfl ?_
  refine x_callV C hR cb_X7_isNode cv_X7_isNode u11_19 (k_X7_isNode hst (by omega)) m_recv ⟨_, _, rfl⟩ rfl (Nat.le_of_ble_eq_true rfl) rfl dX7_counted_3 (by decide) (by decide) (fun E x9 h9 => absurd h9.1 (by intro h; cases h)) (fun r9 x9 h9 => ?_)
  obtain ⟨e9, rfl⟩ := h9
  cases e9
  refine x_if_eq (tgt := 53) C dX7_counted_6 (by decide) (by first | omega | exact bi_rng _) (fun h6 => ?_) (fun h6 => ?_)
  ·
    replace h6 := bi_eq0.mp h6
    refine x_iconst C dX7_counted_53 ?_
    refine m_put (f := 0) C (by decide) u7_8 rfl rfl (by decide +kernel) (wsM_put0 _ _ _ _ _) dX7_counted_54 ?_
    refine x_aload_n C dX7_counted_57 rfl rfl ?_
    refine m_get (f := 0) C (by decide) u7_8 rfl rfl dX7_counted_58 ?_
    refine x_if_le (tgt := 66) C dX7_counted_61 (by decide) (by decide) (fun h => absurd h (by decide)) (fun _ => ?_)
    refine x_iconst C dX7_counted_64 ?_
    refine x_iret (ty := .int) C hQ dX7_counted_65 rfl rfl (by decide) (by decide) ?_
    first | exact Or.inl ⟨⟨by omega, by omega, by omega, by omega, by omega⟩, M1, hF, rfl, rfl⟩ | exact Or.inr ⟨by omega, rfl, rfl⟩
  ·
    replace h6 := bi_ne0.mp h6
    refine x_iload_n C dX7_counted_9 rfl rfl ?_
    refine x_iconst C dX7_counted_10 ?_
    refine x_iconst C dX7_counted_11 ?_
    refine x_callS C hR cb_X7_isIn u7_11 u7_10 (k_X7_isIn hst (by omega) (by omega) (by omega)) rfl (Nat.le_of_ble_eq_true rfl) rfl dX7_counted_12 (by decide) (by decide) (fun E x9 h9 => absurd h9.1 (by intro h; cases h)) (fun r9 x9 h9 => ?_)
    obtain ⟨e9, rfl⟩ := h9
    cases e9
    refine x_if_eq (tgt := 53) C dX7_counted_15 (by decide) (by first | omega | exact bi_rng _) (fun h15 => ?_) (fun h15 => ?_)
    ·
      replace h15 := bi_eq0.mp h15
      refine x_iconst C dX7_counted_53 ?_
      refine m_put (f := 0) C (by decide) u7_8 rfl rfl (by decide +kernel) (wsM_put0 _ _ _ _ _) dX7_counted_54 ?_
      refine x_aload_n C dX7_counted_57 rfl rfl ?_
      refine m_get (f := 0) C (by decide) u7_8 rfl rfl dX7_counted_58 ?_
      refine x_if_le (tgt := 66) C dX7_counted_61 (by decide) (by decide) (fun h => absurd h (by decide)) (fun _ => ?_)
      refine x_iconst C dX7_counted_64 ?_
      refine x_iret (ty := .int) C hQ dX7_counted_65 rfl rfl (by decide) (by decide) ?_
      first | exact Or.inl ⟨⟨by omega, by omega, by omega, by omega, by omega⟩, M1, hF, rfl, rfl⟩ | exact Or.inr ⟨by omega, rfl, rfl⟩
    ·
      replace h15 := bi_ne0.mp h15
      refine x_iload_n C dX7_counted_18 rfl rfl ?_
      refine x_iconst C dX7_counted_19 ?_
      refine x_iconst C dX7_counted_20 ?_
      refine x_callS C hR cb_X7_isIn u7_11 u7_10 (k_X7_isIn hst (by omega) (by omega) (by omega)) rfl (Nat.le_of_ble_eq_true rfl) rfl dX7_counted_21 (by decide) (by decide) (fun E x9 h9 => absurd h9.1 (by intro h; cases h)) (fun r9 x9 h9 => ?_)
      obtain ⟨e9, rfl⟩ := h9
      cases e9
      refine x_if_eq (tgt := 53) C dX7_counted_24 (by decide) (by first | omega | exact bi_rng _) (fun h24 => ?_) (fun h24 => ?_)
      ·
        replace h24 := bi_eq0.mp h24
        refine x_iconst C dX7_counted_53 ?_
        refine m_put (f := 0) C (by decide) u7_8 rfl rfl (by decide +kernel) (wsM_put0 _ _ _ _ _) dX7_counted_54 ?_
        refine x_aload_n C dX7_counted_57 rfl rfl ?_
        refine m_get (f := 0) C (by decide) u7_8 rfl rfl dX7_counted_58 ?_
        refine x_if_le (tgt := 66) C dX7_counted_61 (by decide) (by decide) (fun h => absurd h (by decide)) (fun _ => ?_)
        refine x_iconst C dX7_counted_64 ?_
        refine x_iret (ty := .int) C hQ dX7_counted_65 rfl rfl (by decide) (by decide) ?_
        first | exact Or.inl ⟨⟨by omega, by omega, by omega, by omega, by omega⟩, M1, hF, rfl, rfl⟩ | exact Or.inr ⟨by omega, rfl, rfl⟩
      ·
        replace h24 := bi_ne0.mp h24
        refine x_iload C dX7_counted_27 rfl ?_
        refine x_iconst C dX7_counted_29 ?_
        refine x_ldc (z := 100000) C u7_7 (by decide) dX7_counted_30 ?_
        refine x_callS C hR cb_X7_isIn u7_11 u7_10 (k_X7_isIn hst (by omega) (by omega) (by omega)) rfl (Nat.le_of_ble_eq_true rfl) rfl dX7_counted_32 (by decide) (by decide) (fun E x9 h9 => absurd h9.1 (by intro h; cases h)) (fun r9 x9 h9 => ?_)
        obtain ⟨e9, rfl⟩ := h9
        cases e9
        refine x_if_eq (tgt := 53) C dX7_counted_35 (by decide) (by first | omega | exact bi_rng _) (fun h35 => ?_) (fun h35 => ?_)
        ·
          replace h35 := bi_eq0.mp h35
          refine x_iconst C dX7_counted_53 ?_
          refine m_put (f := 0) C (by decide) u7_8 rfl rfl (by decide +kernel) (wsM_put0 _ _ _ _ _) dX7_counted_54 ?_
          refine x_aload_n C dX7_counted_57 rfl rfl ?_
          refine m_get (f := 0) C (by decide) u7_8 rfl rfl dX7_counted_58 ?_
          refine x_if_le (tgt := 66) C dX7_counted_61 (by decide) (by decide) (fun h => absurd h (by decide)) (fun _ => ?_)
          refine x_iconst C dX7_counted_64 ?_
          refine x_iret (ty := .int) C hQ dX7_counted_65 rfl rfl (by decide) (by decide) ?_
          first | exact Or.inl ⟨⟨by omega, by omega, by omega, by omega, by omega⟩, M1, hF, rfl, rfl⟩ | exact Or.inr ⟨by omega, rfl, rfl⟩
        ·
          replace h35 := bi_ne0.mp h35
          refine x_iload C dX7_counted_38 rfl ?_
          refine x_iconst C dX7_counted_40 ?_
          refine x_bipush C dX7_counted_41 (by decide) ?_
          refine x_callS C hR cb_X7_isIn u7_11 u7_10 (k_X7_isIn hst (by omega) (by omega) (by omega)) rfl (Nat.le_of_ble_eq_true rfl) rfl dX7_counted_43 (by decide) (by decide) (fun E x9 h9 => absurd h9.1 (by intro h; cases h)) (fun r9 x9 h9 => ?_)
          obtain ⟨e9, rfl⟩ := h9
          cases e9
          refine x_if_eq (tgt := 53) C dX7_counted_46 (by decide) (by first | omega | exact bi_rng _) (fun h46 => ?_) (fun h46 => ?_)
          ·
            replace h46 := bi_eq0.mp h46
            refine x_iconst C dX7_counted_53 ?_
            refine m_put (f := 0) C (by decide) u7_8 rfl rfl (by decide +kernel) (wsM_put0 _ _ _ _ _) dX7_counted_54 ?_
            refine x_aload_n C dX7_counted_57 rfl rfl ?_
            refine m_get (f := 0) C (by decide) u7_8 rfl rfl dX7_counted_58 ?_
            refine x_if_le (tgt := 66) C dX7_counted_61 (by decide) (by decide) (fun h => absurd h (by decide)) (fun _ => ?_)
            refine x_iconst C dX7_counted_64 ?_
            refine x_iret (ty := .int) C hQ dX7_counted_65 rfl rfl (by decide) (by decide) ?_
            first | exact Or.inl ⟨⟨by omega, by omega, by omega, by omega, by omega⟩, M1, hF, rfl, rfl⟩ | exact Or.inr ⟨by omega, rfl, rfl⟩
          ·
            replace h46 := bi_ne0.mp h46
            refine x_iconst C dX7_counted_49 ?_
            refine x_goto (tgt := 54) C dX7_counted_50 (by decide) ?_
            refine m_put (f := 0) C (by decide) u7_8 rfl rfl (by decide +kernel) (wsM_put0 _ _ _ _ _) dX7_counted_54 ?_
            refine x_aload_n C dX7_counted_57 rfl rfl ?_
            refine m_get (f := 0) C (by decide) u7_8 rfl rfl dX7_counted_58 ?_
            refine x_if_le (tgt := 66) C dX7_counted_61 (by decide) (by decide) (fun _ => ?_) (fun h => absurd h (by decide))
            refine x_aload_n C dX7_counted_66 rfl rfl ?_
            refine x_callV C hR cb_X7_finds cv_X7_finds u14_11 (k_X7_finds hst hM) m_recv ⟨_, _, rfl⟩ rfl (Nat.le_of_ble_eq_true rfl) rfl dX7_counted_67 (by decide) (by decide) (fun E x9 h9 => absurd h9.1 (by intro h; cases h)) (fun r9 x9 h9 => ?_)
            obtain ⟨e9, M1, hs1, hlo1, rfl⟩ := h9
            cases e9
            have hF : Fnd M M1 := ⟨hs1, hlo1⟩
            have hM1 := hF.MI hM
            have hn1 : M1 2 0 = M 2 0 := by rw [hs1 2 (by decide)]
            refine x_aload_n C dX7_counted_70 rfl rfl ?_
            refine x_iload_n C dX7_counted_71 rfl rfl ?_
            refine x_iload_n C dX7_counted_72 rfl rfl ?_
            refine x_iload_n C dX7_counted_73 rfl rfl ?_
            refine x_iload C dX7_counted_74 rfl ?_
            refine x_iload C dX7_counted_76 rfl ?_
            refine x_callV C hR cb_X7_sum cv_X7_sum u22_3 (k_X7_sum hst hM1 (by omega) (by omega) (by omega) (by omega) (by omega)) m_recv ⟨_, _, rfl⟩ rfl (Nat.le_of_ble_eq_true rfl) rfl dX7_counted_78 (by decide) (by decide) (fun E x9 h9 => absurd h9.1 (by intro h; cases h)) (fun r9 x9 h9 => ?_)
            obtain ⟨e9, rfl⟩ := h9
            cases e9
            refine x_iret (ty := .int) C hQ dX7_counted_81 rfl rfl (by decide) (by decide) ?_
            first | exact Or.inl ⟨⟨by omega, by omega, by omega, by omega, by omega⟩, M1, hF, rfl, rfl⟩ | exact Or.inr ⟨by omega, rfl, rfl⟩

set_option maxRecDepth 100000 in
set_option maxHeartbeats 400000 in
theorem k_X6_events {l : Launch} {D : va_G} {cy : CY} (hst : l.stackTraces = false) {h : HS} {A : AD} {M : MS} {x kind : Int} {lz : List Int} {f : Int → Int} (s : SP h A M) (v : VO h A) (hf : LW h A f) (hC : ChL h A lz) (hl : ∀ e ∈ lz, 0 ≤ e ∧ e < M 2 0) (hx : -2147483648 ≤ x ∧ x ≤ 2147483647) (hkind : -2147483648 ≤ kind ∧ kind ≤ 2147483647) : Ct l D cy yX6_events (Cond.code yX6_events cX6_events 7 (some .int)) 6 82 1 6 (RepH cy) [vr (some (cO A)), vi x, vi kind] h (fun r h' => h' = h ∧ ((((0 ≤ x ∧ x < 20) ∧ (-1 ≤ kind ∧ kind ≤ 4)) ∧ r = .ok (some (vi (evN M f (f x) kind lz)))) ∨ (¬ ((0 ≤ x ∧ x < 20) ∧ (-1 ≤ kind ∧ kind ≤ 4)) ∧ r = .error "java/lang/IllegalArgumentException"))) := by
  refine Ct.of1 (own := RX6) hst (by decide) rfl (Nat.le_of_ble_eq_true rfl) (cat1 (vr_cat _) (cat1 (vi_cat _) (cat1 (vi_cat _) (cat0)))) ?_
  intro φ C hQ hn hR hl hD
  subst hl hD
  obtain ⟨v0, v60, v61, v62, v63, v64, vn, vnl, vnr, vm, vml, vh, vt, vw, vwl⟩ := id v
  by_cases hx2 : 0 ≤ x ∧ x < 20
  ·
    have hfx := (hf x hx2.1 hx2.2).2
    obtain ⟨m0, -⟩ := s.no x hx2.1 hx2.2
    have loop : (-1 ≤ kind ∧ kind ≤ 4) → ∀ (t : List Int) (u : Option Nat) (c : Int), LG h A u t none → (∀ e ∈ t, 0 ≤ e ∧ e < M 2 0) → c + evN M f (f x) kind t = evN M f (f x) kind lz → X φ (RepH cy h) 0 0 50 [(0, vr (some (cO A))), (2, vi kind), (4, vr (some (nd A (f x)))), (5, vi c), (6, vr u)] [] := by
      intro hk4 t
      induction t with
      | nil =>
        intro u c hu ht hcc
        have hu : u = none := hu
        subst hu
        refine x_aload C dX6_events_50 rfl ?_
        refine x_ifnull (tgt := 92) C dX6_events_52 (by decide) (fun h52 => ?_) (fun a52 h52 => ?_)
        ·
          refine x_iload C dX6_events_92 rfl ?_
          refine x_iret (ty := .int) C hQ dX6_events_94 rfl rfl (by decide) (by decide) ?_
          exact ⟨rfl, Or.inl ⟨⟨hx2, by omega⟩, by rw [show c = evN M f (f x) kind lz from (Int.add_zero c).symm.trans hcc]⟩⟩
        ·
          cases h52
      | cons y t ih =>
        intro u c hu ht hcc
        obtain ⟨rfl, hu2⟩ := hu
        have hxl := ht y List.mem_cons_self
        obtain ⟨exk, e10, e11, e12, e13, e14, e15, e16⟩ := s.ve y hxl.1 hxl.2
        have hcc : c + ((if evP M f (f x) kind y then 1 else 0) + evN M f (f x) kind t) = evN M f (f x) kind lz := hcc
        obtain ⟨-, -, -, hk6, -⟩ := s.mi.ev y hxl.1 hxl.2
        refine x_aload C dX6_events_50 rfl ?_
        refine x_ifnull (tgt := 92) C dX6_events_52 (by decide) (fun h52 => ?_) (fun a52 h52 => ?_)
        ·
          cases h52
        ·
          refine x_aload C dX6_events_55 rfl ?_
          refine x_aload C dX6_events_57 rfl ?_
          refine x_callV C hR cb_X1_isOf cv_X1_isOf u11_2 (k_X1_isOf hst s hf hxl (hf x hx2.1 hx2.2).2) (h_recv exk (by decide)) ⟨_, _, rfl⟩ rfl (Nat.le_of_ble_eq_true rfl) rfl dX6_events_59 (by decide) (by decide) (fun E x9 h9 => absurd h9.1 (by intro h; cases h)) (fun r9 x9 h9 => ?_)
          obtain ⟨e9, q9⟩ := h9
          cases e9
          subst x9
          refine x_if_eq (tgt := 82) C dX6_events_62 (by decide) (by first | omega | exact bi_rng _) (fun h62 => ?_) (fun h62 => ?_)
          ·
            replace h62 := bi_eq0.mp h62
            refine x_aload C dX6_events_82 rfl ?_
            refine h_get1 (f := 8) C exk (by decide) u8_3 rfl rfl dX6_events_84 ?_
            refine x_astore C dX6_events_87 (by rw [hn]; exact Nat.le_of_ble_eq_true rfl) ?_
            refine x_goto (tgt := 50) C dX6_events_89 (by decide) ?_
            first
            | (have hq : evP M f (f x) kind y := ⟨h62, Or.inl h67⟩
               rw [if_pos hq] at hcc
               exact X.to (ih _ (c + 1) hu2 (fun e he => ht e (List.mem_cons_of_mem _ he)) (by omega)) (lsc rfl (lsc rfl (lsc rfl (lsc rfl (lsc rfl (lsn)))))))
            | (have hq : evP M f (f x) kind y := ⟨h62, Or.inr h76⟩
               rw [if_pos hq] at hcc
               exact X.to (ih _ (c + 1) hu2 (fun e he => ht e (List.mem_cons_of_mem _ he)) (by omega)) (lsc rfl (lsc rfl (lsc rfl (lsc rfl (lsc rfl (lsn)))))))
            | (have hq : ¬ evP M f (f x) kind y := fun q => q.2.elim h67 h76
               rw [if_neg hq] at hcc
               exact X.to (ih _ c hu2 (fun e he => ht e (List.mem_cons_of_mem _ he)) (by omega)) (lsc rfl (lsc rfl (lsc rfl (lsc rfl (lsc rfl (lsn)))))))
            | (have hq : ¬ evP M f (f x) kind y := fun q => h62 q.1
               rw [if_neg hq] at hcc
               exact X.to (ih _ c hu2 (fun e he => ht e (List.mem_cons_of_mem _ he)) (by omega)) (lsc rfl (lsc rfl (lsc rfl (lsc rfl (lsc rfl (lsn)))))))
          ·
            replace h62 := bi_ne0.mp h62
            refine x_iload_n C dX6_events_65 rfl rfl ?_
            refine x_iconst C dX6_events_66 ?_
            refine x_icmp_eq (tgt := 79) C dX6_events_67 (by decide) (by omega) (by omega) (fun h67 => ?_) (fun h67 => ?_)
            ·
              refine x_iinc C dX6_events_79 (by rw [hn]; exact Nat.le_of_ble_eq_true rfl) rfl ?_
              refine x_aload C dX6_events_82 rfl ?_
              refine h_get1 (f := 8) C exk (by decide) u8_3 rfl rfl dX6_events_84 ?_
              refine x_astore C dX6_events_87 (by rw [hn]; exact Nat.le_of_ble_eq_true rfl) ?_
              refine x_goto (tgt := 50) C dX6_events_89 (by decide) ?_
              first
              | (have hq : evP M f (f x) kind y := ⟨h62, Or.inl h67⟩
                 rw [if_pos hq] at hcc
                 exact X.to (ih _ (c + 1) hu2 (fun e he => ht e (List.mem_cons_of_mem _ he)) (by omega)) (lsc rfl (lsc rfl (lsc rfl (lsc rfl (lsc rfl (lsn)))))))
              | (have hq : evP M f (f x) kind y := ⟨h62, Or.inr h76⟩
                 rw [if_pos hq] at hcc
                 exact X.to (ih _ (c + 1) hu2 (fun e he => ht e (List.mem_cons_of_mem _ he)) (by omega)) (lsc rfl (lsc rfl (lsc rfl (lsc rfl (lsc rfl (lsn)))))))
              | (have hq : ¬ evP M f (f x) kind y := fun q => q.2.elim h67 h76
                 rw [if_neg hq] at hcc
                 exact X.to (ih _ c hu2 (fun e he => ht e (List.mem_cons_of_mem _ he)) (by omega)) (lsc rfl (lsc rfl (lsc rfl (lsc rfl (lsc rfl (lsn)))))))
              | (have hq : ¬ evP M f (f x) kind y := fun q => h62 q.1
                 rw [if_neg hq] at hcc
                 exact X.to (ih _ c hu2 (fun e he => ht e (List.mem_cons_of_mem _ he)) (by omega)) (lsc rfl (lsc rfl (lsc rfl (lsc rfl (lsc rfl (lsn)))))))
            ·
              refine x_aload C dX6_events_70 rfl ?_
              refine h_get1 (f := 3) C exk (by decide) u14_19 rfl rfl dX6_events_72 ?_
              simp only [e10, e13, e14, e15, e16]
              refine x_iload_n C dX6_events_75 rfl rfl ?_
              refine x_icmp_ne (tgt := 82) C dX6_events_76 (by decide) (by omega) (by omega) (fun h76 => ?_) (fun h76 => ?_)
              ·
                refine x_aload C dX6_events_82 rfl ?_
                refine h_get1 (f := 8) C exk (by decide) u8_3 rfl rfl dX6_events_84 ?_
                refine x_astore C dX6_events_87 (by rw [hn]; exact Nat.le_of_ble_eq_true rfl) ?_
                refine x_goto (tgt := 50) C dX6_events_89 (by decide) ?_
                first
                | (have hq : evP M f (f x) kind y := ⟨h62, Or.inl h67⟩
                   rw [if_pos hq] at hcc
                   exact X.to (ih _ (c + 1) hu2 (fun e he => ht e (List.mem_cons_of_mem _ he)) (by omega)) (lsc rfl (lsc rfl (lsc rfl (lsc rfl (lsc rfl (lsn)))))))
                | (have hq : evP M f (f x) kind y := ⟨h62, Or.inr h76⟩
                   rw [if_pos hq] at hcc
                   exact X.to (ih _ (c + 1) hu2 (fun e he => ht e (List.mem_cons_of_mem _ he)) (by omega)) (lsc rfl (lsc rfl (lsc rfl (lsc rfl (lsc rfl (lsn)))))))
                | (have hq : ¬ evP M f (f x) kind y := fun q => q.2.elim h67 h76
                   rw [if_neg hq] at hcc
                   exact X.to (ih _ c hu2 (fun e he => ht e (List.mem_cons_of_mem _ he)) (by omega)) (lsc rfl (lsc rfl (lsc rfl (lsc rfl (lsc rfl (lsn)))))))
                | (have hq : ¬ evP M f (f x) kind y := fun q => h62 q.1
                   rw [if_neg hq] at hcc
                   exact X.to (ih _ c hu2 (fun e he => ht e (List.mem_cons_of_mem _ he)) (by omega)) (lsc rfl (lsc rfl (lsc rfl (lsc rfl (lsc rfl (lsn)))))))
              ·
                refine x_iinc C dX6_events_79 (by rw [hn]; exact Nat.le_of_ble_eq_true rfl) rfl ?_
                refine x_aload C dX6_events_82 rfl ?_
                refine h_get1 (f := 8) C exk (by decide) u8_3 rfl rfl dX6_events_84 ?_
                refine x_astore C dX6_events_87 (by rw [hn]; exact Nat.le_of_ble_eq_true rfl) ?_
                refine x_goto (tgt := 50) C dX6_events_89 (by decide) ?_
                first
                | (have hq : evP M f (f x) kind y := ⟨h62, Or.inl h67⟩
                   rw [if_pos hq] at hcc
                   exact X.to (ih _ (c + 1) hu2 (fun e he => ht e (List.mem_cons_of_mem _ he)) (by omega)) (lsc rfl (lsc rfl (lsc rfl (lsc rfl (lsc rfl (lsn)))))))
                | (have hq : evP M f (f x) kind y := ⟨h62, Or.inr h76⟩
                   rw [if_pos hq] at hcc
                   exact X.to (ih _ (c + 1) hu2 (fun e he => ht e (List.mem_cons_of_mem _ he)) (by omega)) (lsc rfl (lsc rfl (lsc rfl (lsc rfl (lsc rfl (lsn)))))))
                | (have hq : ¬ evP M f (f x) kind y := fun q => q.2.elim h67 h76
                   rw [if_neg hq] at hcc
                   exact X.to (ih _ c hu2 (fun e he => ht e (List.mem_cons_of_mem _ he)) (by omega)) (lsc rfl (lsc rfl (lsc rfl (lsc rfl (lsc rfl (lsn)))))))
                | (have hq : ¬ evP M f (f x) kind y := fun q => h62 q.1
                   rw [if_neg hq] at hcc
                   exact X.to (ih _ c hu2 (fun e he => ht e (List.mem_cons_of_mem _ he)) (by omega)) (lsc rfl (lsc rfl (lsc rfl (lsc rfl (lsc rfl (lsn)))))))
    refine x_aload_n C dX6_events_0 rfl rfl ?_
    refine x_iload_n C dX6_events_1 rfl rfl ?_
    refine x_callV C hR cb_X6_nodeAt cv_X6_nodeAt u4_16 (k_X6_nodeAt (M := M) hst v (by omega)) (h_recv v0 (by decide)) ⟨_, _, rfl⟩ rfl (Nat.le_of_ble_eq_true rfl) rfl dX6_events_2 (by decide) (by decide) (fun E x9 h9 => absurd h9.1 (by intro h; cases h)) (fun r9 x9 h9 => ?_)
    obtain ⟨e9, q9⟩ := h9
    cases e9
    subst x9
    rw [if_pos hx2]
    refine x_astore_n C dX6_events_5 rfl (by rw [hn]; exact Nat.le_of_ble_eq_true rfl) ?_
    refine x_aload_n C dX6_events_6 rfl rfl ?_
    refine x_ifnull (tgt := 22) C dX6_events_7 (by decide) (fun h7 => ?_) (fun a7 h7 => ?_)
    ·
      refine x_throwS C hQ hR th_IAE (List.mem_of_getElem? (i := 12) rfl) dX6_events_22 dX6_events_25 dX6_events_26 dX6_events_28 dX6_events_31 (by decide) (by decide) (by decide) (by decide) ?_
      first
      | (exfalso; cases h7; done)
      | exact ⟨rfl, Or.inr ⟨by omega, rfl⟩⟩
    ·
      refine x_iload_n C dX6_events_10 rfl rfl ?_
      refine x_iconst C dX6_events_11 ?_
      refine x_icmp_eq (tgt := 32) C dX6_events_12 (by decide) (by first | omega | exact bi_rng _) (by first | omega | exact bi_rng _) (fun h12 => ?_) (fun h12 => ?_)
      ·
        refine x_aload_n C dX6_events_32 rfl rfl ?_
        refine x_callV C hR cb_X4_lowest cv_X4_lowest u7_6 (k_X4_lowest hst s hf hx2) (h_recv m0 (by decide)) ⟨_, _, rfl⟩ rfl (Nat.le_of_ble_eq_true rfl) rfl dX6_events_33 (by decide) (by decide) (fun E x9 h9 => absurd h9.1 (by intro h; cases h)) (fun r9 x9 h9 => ?_)
        obtain ⟨e9, q9⟩ := h9
        cases e9
        subst x9
        refine x_astore C dX6_events_36 (by rw [hn]; exact Nat.le_of_ble_eq_true rfl) ?_
        refine x_iconst C dX6_events_38 ?_
        refine x_istore C dX6_events_39 (by rw [hn]; exact Nat.le_of_ble_eq_true rfl) ?_
        refine x_aload_n C dX6_events_41 rfl rfl ?_
        refine h_get6 (f := 2) C v0 (by decide) u0_22 rfl rfl dX6_events_42 ?_
        simp only [v62]
        refine h_get2 (f := 0) C vh (by decide) u8_1 rfl rfl dX6_events_45 ?_
        refine x_astore C dX6_events_48 (by rw [hn]; exact Nat.le_of_ble_eq_true rfl) ?_
        exact X.to (loop (by omega) lz _ 0 hC.1 hl (Int.zero_add _)) (lsc rfl (lsc rfl (lsc rfl (lsc rfl (lsc rfl (lsn))))))
      ·
        refine x_iload_n C dX6_events_15 rfl rfl ?_
        refine x_callS C hR cb_X6_isKind u2_14 u2_13 (k_X6_isKind (M := M) (A := A) hst (by omega)) rfl (Nat.le_of_ble_eq_true rfl) rfl dX6_events_16 (by decide) (by decide) (fun E x9 h9 => absurd h9.1 (by intro h; cases h)) (fun r9 x9 h9 => ?_)
        obtain ⟨e9, q9⟩ := h9
        cases e9
        subst x9
        refine x_if_ne (tgt := 32) C dX6_events_19 (by decide) (by first | omega | exact bi_rng _) (fun h19 => ?_) (fun h19 => ?_)
        ·
          replace h19 := bi_ne0.mp h19
          refine x_aload_n C dX6_events_32 rfl rfl ?_
          refine x_callV C hR cb_X4_lowest cv_X4_lowest u7_6 (k_X4_lowest hst s hf hx2) (h_recv m0 (by decide)) ⟨_, _, rfl⟩ rfl (Nat.le_of_ble_eq_true rfl) rfl dX6_events_33 (by decide) (by decide) (fun E x9 h9 => absurd h9.1 (by intro h; cases h)) (fun r9 x9 h9 => ?_)
          obtain ⟨e9, q9⟩ := h9
          cases e9
          subst x9
          refine x_astore C dX6_events_36 (by rw [hn]; exact Nat.le_of_ble_eq_true rfl) ?_
          refine x_iconst C dX6_events_38 ?_
          refine x_istore C dX6_events_39 (by rw [hn]; exact Nat.le_of_ble_eq_true rfl) ?_
          refine x_aload_n C dX6_events_41 rfl rfl ?_
          refine h_get6 (f := 2) C v0 (by decide) u0_22 rfl rfl dX6_events_42 ?_
          simp only [v62]
          refine h_get2 (f := 0) C vh (by decide) u8_1 rfl rfl dX6_events_45 ?_
          refine x_astore C dX6_events_48 (by rw [hn]; exact Nat.le_of_ble_eq_true rfl) ?_
          exact X.to (loop (by omega) lz _ 0 hC.1 hl (Int.zero_add _)) (lsc rfl (lsc rfl (lsc rfl (lsc rfl (lsc rfl (lsn))))))
        ·
          replace h19 := bi_eq0.mp h19
          refine x_throwS C hQ hR th_IAE (List.mem_of_getElem? (i := 12) rfl) dX6_events_22 dX6_events_25 dX6_events_26 dX6_events_28 dX6_events_31 (by decide) (by decide) (by decide) (by decide) ?_
          first
          | (exfalso; cases h7; done)
          | exact ⟨rfl, Or.inr ⟨by omega, rfl⟩⟩
  ·
    refine x_aload_n C dX6_events_0 rfl rfl ?_
    refine x_iload_n C dX6_events_1 rfl rfl ?_
    refine x_callV C hR cb_X6_nodeAt cv_X6_nodeAt u4_16 (k_X6_nodeAt (M := M) hst v (by omega)) (h_recv v0 (by decide)) ⟨_, _, rfl⟩ rfl (Nat.le_of_ble_eq_true rfl) rfl dX6_events_2 (by decide) (by decide) (fun E x9 h9 => absurd h9.1 (by intro h; cases h)) (fun r9 x9 h9 => ?_)
    obtain ⟨e9, q9⟩ := h9
    cases e9
    subst x9
    rw [if_neg hx2]
    refine x_astore_n C dX6_events_5 rfl (by rw [hn]; exact Nat.le_of_ble_eq_true rfl) ?_
    refine x_aload_n C dX6_events_6 rfl rfl ?_
    refine x_ifnull (tgt := 22) C dX6_events_7 (by decide) (fun h7 => ?_) (fun a7 h7 => ?_)
    ·
      refine x_throwS C hQ hR th_IAE (List.mem_of_getElem? (i := 12) rfl) dX6_events_22 dX6_events_25 dX6_events_26 dX6_events_28 dX6_events_31 (by decide) (by decide) (by decide) (by decide) ?_
      first
      | (exfalso; cases h7; done)
      | exact ⟨rfl, Or.inr ⟨by omega, rfl⟩⟩
    ·
      cases h7

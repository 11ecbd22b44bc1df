/-! The face: the event at a place -/
theorem at1_mid (done rest : List Int) (y : Int) : at1 (done ++ y :: rest) done.length = y := by
  unfold at1
  rw [List.getElem?_append_right (Nat.le_refl _), Nat.sub_self]
  rfl

set_option maxRecDepth 100000 in
set_option maxHeartbeats 400000 in
theorem k_X6_eventAt {l : Launch} {D : va_G} {cy : CY} (hst : l.stackTraces = false) {h : HS} {A : AD} {M : MS} {x pl : Int} {lz : List Int} {f : Int → Int} (s : SP h A M) (v : VO h A) (hf : LW h A f) (hC : ChL h A lz) (hl : ∀ e ∈ lz, 0 ≤ e ∧ e < M 2 0) (hll : (lz.length : Int) ≤ 200) (hx : -2147483648 ≤ x ∧ x ≤ 2147483647) (hpl : -2147483648 ≤ pl ∧ pl ≤ 2147483647) : Ct l D cy yX6_eventAt (Cond.code yX6_eventAt cX6_eventAt 6 (some .int)) 7 104 2 12 (RepH cy) [vr (some (cO A)), vi x, vi pl] h (fun r h' => h' = h ∧ (((0 ≤ x ∧ x < 20) ∧ (0 ≤ pl ∧ pl < ((lz.filter (fun e => decide (f (ndOf M e) = f x))).length : Int)) ∧ r = .ok (some (vi (M 3 (at1 (lz.filter (fun e => decide (f (ndOf M e) = f x))) pl.toNat))))) ∨ ((0 ≤ x ∧ x < 20) ∧ ¬ (0 ≤ pl ∧ pl < ((lz.filter (fun e => decide (f (ndOf M e) = f x))).length : Int)) ∧ r = .error "java/lang/IndexOutOfBoundsException") ∨ (¬ (0 ≤ x ∧ x < 20) ∧ r = .error "java/lang/IllegalArgumentException"))) := by
  refine Ct.of1 (own := RX6) hst (by decide) rfl (Nat.le_of_ble_eq_true rfl) (cat1 (vr_cat _) (cat1 (vi_cat _) (cat1 (vi_cat _) (cat0)))) ?_
  intro φ C hQ hn hR hl hD
  subst hl hD
  obtain ⟨v0, v60, v61, v62, v63, v64, vn, vnl, vnr, vm, vml, vh, vt, vw, vwl⟩ := id v
  have LOOP : (0 ≤ x ∧ x < 20) → X φ (RepH cy h) 1 6 21 [(0, vr (some (cO A))), (2, vi pl), (3, vr (some (nd A (f x)))), (4, vi 0), (5, vr (fP h 20 (cH A)))] [] := by
    intro hx2
    have loop : ∀ (t : List Int) (u : Option Nat) (done : List Int), LG h A u t none → (∀ e ∈ t, 0 ≤ e ∧ e < M 2 0) → (lz.filter (fun e => decide (f (ndOf M e) = f x))) = done ++ (t.filter (fun e => decide (f (ndOf M e) = f x))) → (pl < 0 ∨ (done.length : Int) ≤ pl) → (done.length : Int) + t.length ≤ 200 → X φ (RepH cy h) 1 6 21 [(0, vr (some (cO A))), (2, vi pl), (3, vr (some (nd A (f x)))), (4, vi (done.length : Int)), (5, vr u)] [] := by
      intro t
      induction t with
      | nil =>
        intro u done hu ht hsl hpl hlt
        have hu : u = none := hu
        subst hu
        have hsl2 : (lz.filter (fun e => decide (f (ndOf M e) = f x))).length = done.length := by rw [hsl]; simp
        refine x_aload C dX6_eventAt_21 rfl ?_
        refine x_ifnull (tgt := 60) C dX6_eventAt_23 (by decide) (fun h23 => ?_) (fun a23 h23 => ?_)
        ·
          refine x_throwS C hQ hR th_IOB (List.mem_of_getElem? (i := 13) rfl) dX6_eventAt_60 dX6_eventAt_63 dX6_eventAt_64 dX6_eventAt_66 dX6_eventAt_69 (by decide) (by decide) (by decide) (by decide) ?_
          exact ⟨rfl, Or.inr (Or.inl ⟨hx2, by omega, rfl⟩)⟩
        ·
          cases h23
      | cons y t ih =>
        intro u done hu ht hsl hpl hlt
        obtain ⟨rfl, hu2⟩ := hu
        have hxl := ht y List.mem_cons_self
        obtain ⟨exk, e10, e11, e12, e13, e14, e15, e16⟩ := s.ve y hxl.1 hxl.2
        rw [List.length_cons] at hlt
        by_cases hx : f (ndOf M y) = f x
        · rw [List.filter_cons_of_pos (by simpa using hx)] at hsl
          refine x_aload C dX6_eventAt_21 rfl ?_
          refine x_ifnull (tgt := 60) C dX6_eventAt_23 (by decide) (fun h23 => ?_) (fun a23 h23 => ?_)
          ·
            cases h23
          ·
            refine x_aload C dX6_eventAt_26 rfl ?_
            refine x_aload_n C dX6_eventAt_28 rfl rfl ?_
            refine x_callV C hR cb_X1_isOf cv_X1_isOf u11_2 (k_X1_isOf hst s hf hxl (hf x hx2.1 hx2.2).2) (h_recv exk (by decide)) ⟨_, _, rfl⟩ rfl (Nat.le_of_ble_eq_true rfl) rfl dX6_eventAt_29 (by decide) (by decide) (fun E x9 h9 => absurd h9.1 (by intro h; cases h)) (fun r9 x9 h9 => ?_)
            obtain ⟨e9, q9⟩ := h9
            cases e9
            subst x9
            rw [bi_t hx]
            refine x_if_eq (tgt := 50) C dX6_eventAt_32 (by decide) (by decide) (fun h => absurd h (by decide)) (fun _ => ?_)
            refine x_iload C dX6_eventAt_35 rfl ?_
            refine x_iload_n C dX6_eventAt_37 rfl rfl ?_
            refine x_icmp_ne (tgt := 47) C dX6_eventAt_38 (by decide) (by omega) (by omega) (fun h38 => ?_) (fun h38 => ?_)
            ·
              refine x_iinc C dX6_eventAt_47 (by rw [hn]; exact Nat.le_of_ble_eq_true rfl) rfl ?_
              refine x_aload C dX6_eventAt_50 rfl ?_
              refine h_get1 (f := 8) C exk (by decide) u8_3 rfl rfl dX6_eventAt_52 ?_
              refine x_astore C dX6_eventAt_55 (by rw [hn]; exact Nat.le_of_ble_eq_true rfl) ?_
              refine x_goto (tgt := 21) C dX6_eventAt_57 (by decide) ?_
              exact X.to (ih _ (done ++ [y]) hu2 (fun e he => ht e (List.mem_cons_of_mem _ he)) (by rw [hsl, List.append_assoc]; rfl) (by rw [List.length_append, List.length_singleton]; omega) (by rw [List.length_append, List.length_singleton]; omega)) (lsc rfl (lsc rfl (lsc rfl (lsc (by rw [List.length_append, List.length_singleton]; rfl) (lsc rfl lsn)))))
            ·
              refine x_aload C dX6_eventAt_41 rfl ?_
              refine h_get1 (f := 0) C exk (by decide) u14_6 rfl rfl dX6_eventAt_43 ?_
              simp only [e10, e13, e14, e15, e16]
              refine x_iret (ty := .int) C hQ dX6_eventAt_46 rfl rfl (by decide) (by decide) ?_
              exact ⟨rfl, Or.inl ⟨hx2, ⟨by omega, by rw [hsl, List.length_append, List.length_cons]; omega⟩, by rw [hsl, show pl.toNat = done.length by omega, at1_mid]⟩⟩
        ·
          refine x_aload C dX6_eventAt_21 rfl ?_
          refine x_ifnull (tgt := 60) C dX6_eventAt_23 (by decide) (fun h23 => ?_) (fun a23 h23 => ?_)
          ·
            cases h23
          ·
            refine x_aload C dX6_eventAt_26 rfl ?_
            refine x_aload_n C dX6_eventAt_28 rfl rfl ?_
            refine x_callV C hR cb_X1_isOf cv_X1_isOf u11_2 (k_X1_isOf hst s hf hxl (hf x hx2.1 hx2.2).2) (h_recv exk (by decide)) ⟨_, _, rfl⟩ rfl (Nat.le_of_ble_eq_true rfl) rfl dX6_eventAt_29 (by decide) (by decide) (fun E x9 h9 => absurd h9.1 (by intro h; cases h)) (fun r9 x9 h9 => ?_)
            obtain ⟨e9, q9⟩ := h9
            cases e9
            subst x9
            rw [bi_f hx]
            refine x_if_eq (tgt := 50) C dX6_eventAt_32 (by decide) (by decide) (fun _ => ?_) (fun h => absurd h (by decide))
            refine x_aload C dX6_eventAt_50 rfl ?_
            refine h_get1 (f := 8) C exk (by decide) u8_3 rfl rfl dX6_eventAt_52 ?_
            refine x_astore C dX6_eventAt_55 (by rw [hn]; exact Nat.le_of_ble_eq_true rfl) ?_
            refine x_goto (tgt := 21) C dX6_eventAt_57 (by decide) ?_
            exact X.to (ih _ done hu2 (fun e he => ht e (List.mem_cons_of_mem _ he)) (by rw [hsl, List.filter_cons_of_neg (by simpa using hx)]) hpl (by omega)) (lsc rfl (lsc rfl (lsc rfl (lsc rfl (lsc rfl (lsn))))))
    exact X.to (loop lz _ [] hC.1 hl rfl (by rw [List.length_nil]; omega) (by rw [List.length_nil]; omega)) (lsc rfl (lsc rfl (lsc rfl (lsc rfl (lsc rfl (lsn))))))
  refine x_aload_n C dX6_eventAt_0 rfl rfl ?_
  refine x_iload_n C dX6_eventAt_1 rfl rfl ?_
  refine x_callV C hR cb_X6_neededNode cv_X6_neededNode u10_22 (k_X6_neededNode (M := M) hst v (by omega)) (h_recv v0 (by decide)) ⟨_, _, rfl⟩ rfl (Nat.le_of_ble_eq_true rfl) rfl dX6_eventAt_2 (by decide) (by decide) (fun E x9 h9 => by (obtain ⟨q9, g9⟩ := h9; subst x9; rcases g9 with ⟨-, g⟩ | ⟨g1, g⟩; (cases g); (cases g; exact xt_out C hQ (by decide) (by decide) ⟨rfl, Or.inr (Or.inr ⟨g1, rfl⟩)⟩))) (fun r9 x9 h9 => ?_)
  obtain ⟨q9, g9⟩ := h9
  subst x9
  obtain ⟨hx2, e9⟩ := g9.resolve_right (fun g => by cases g.2)
  cases e9
  have hfx := (hf x hx2.1 hx2.2).2
  obtain ⟨m0, -⟩ := s.no x hx2.1 hx2.2
  refine x_callV C hR cb_X4_lowest cv_X4_lowest u7_6 (k_X4_lowest hst s hf hx2) (h_recv m0 (by decide)) ⟨_, _, rfl⟩ rfl (Nat.le_of_ble_eq_true rfl) rfl dX6_eventAt_5 (by decide) (by decide) (fun E x9 h9 => absurd h9.1 (by intro h; cases h)) (fun r9 x9 h9 => ?_)
  obtain ⟨e9, q9⟩ := h9
  cases e9
  subst x9
  refine x_astore_n C dX6_eventAt_8 rfl (by rw [hn]; exact Nat.le_of_ble_eq_true rfl) ?_
  refine x_iconst C dX6_eventAt_9 ?_
  refine x_istore C dX6_eventAt_10 (by rw [hn]; exact Nat.le_of_ble_eq_true rfl) ?_
  refine x_aload_n C dX6_eventAt_12 rfl rfl ?_
  refine h_get6 (f := 2) C v0 (by decide) u0_22 rfl rfl dX6_eventAt_13 ?_
  simp only [v62]
  refine h_get2 (f := 0) C vh (by decide) u8_1 rfl rfl dX6_eventAt_16 ?_
  refine x_astore C dX6_eventAt_19 (by rw [hn]; exact Nat.le_of_ble_eq_true rfl) ?_
  exact X.to (LOOP hx2) (lsc rfl (lsc rfl (lsc rfl (lsc rfl (lsc rfl (lsn))))))

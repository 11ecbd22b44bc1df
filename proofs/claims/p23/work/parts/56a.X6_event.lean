/-! event -/
theorem ev_tm {M : MS} {its dv who what frm time e : Int} (he : e < M 2 0) : tmOf (evM M its dv who what frm time) e = tmOf M e := by
  unfold tmOf
  rw [ev_s8 he, ev_s4 he, ev_o11]
theorem ev_pw {M : MS} {its dv who what frm time : Int} {l : List Int} (hO : Ord M l) : l.Pairwise (ahd (evM M its dv who what frm time)) := by
  refine hO.1.imp_of_mem (fun {a b} ha hb hab => ?_)
  unfold ahd at hab ⊢
  rw [ev_tm ((hO.2 a).mp ha).1.2, ev_tm ((hO.2 b).mp hb).1.2]
  exact hab
theorem LG_A {h : HS} {A A' : AD} : ∀ {l : List Int} {p q : Option Nat}, (∀ e ∈ l, ev A' e = ev A e) → LG h A p l q → LG h A' p l q := by
  intro l
  induction l with
  | nil => intro p q _ hh; exact hh
  | cons e t ih =>
    rintro p q hc ⟨h1, h2⟩
    have he := hc e List.mem_cons_self
    refine ⟨by rw [he]; exact h1, ?_⟩
    rw [he]
    exact ih (fun x hx => hc x (List.mem_cons_of_mem _ hx)) h2
theorem ChL_A {h : HS} {A A' : AD} {l : List Int} (hH : cH A' = cH A) (hc : ∀ e ∈ l, ev A' e = ev A e) (hh : ChL h A l) : ChL h A' l := by
  refine ⟨by rw [hH]; exact LG_A hc hh.1, ?_⟩
  rw [hH, hh.2]
  unfold lastP
  cases hg : l.getLast? with
  | none => rfl
  | some a =>
    show some (ev A a) = some (ev A' a)
    rw [hc a (List.mem_of_getLast? hg)]
theorem SP.ev3 {h : HS} {A : AD} {M : MS} {q : Nat} {its dv who what frm time : Int} (s : SP h A M) (hq : kD h q = 0) (hn : M 2 0 < 200) (h1 : 0 ≤ its ∧ its ≤ 999) (h2 : 0 ≤ dv ∧ dv ≤ 9) (h3 : -1 ≤ who ∧ who ≤ 9) (h4 : 0 ≤ what ∧ what ≤ 4) (h5 : -1 ≤ frm ∧ frm ≤ 9) (h6 : 0 ≤ time ∧ time ≤ 100000) : SP (nwE h q its (some (nd A (10 + dv))) (if who = -1 then none else some (nd A who)) what frm time (M 2 0)) (updE A (M 2 0) q) (evM M its dv who what frm time) := by
  have hex := nwE_ex (nu := its) (dv := some (nd A (10 + dv))) (ac := if who = -1 then none else some (nd A who)) (ki := what) (cp := frm) (tm := time) (rk := M 2 0) hq
  have s1 := hex.sp s
  have hat := nwE_at h q its (some (nd A (10 + dv))) (if who = -1 then none else some (nd A who)) what frm time (M 2 0)
  refine ⟨s.mi.ev2 hn h1 h2 h3 h4 h5 h6, fun k k0 k1 => s1.no k k0 k1, fun d d0 d1 => ?_, fun e e0 e1 => ?_⟩
  · have := s1.dv d d0 d1
    simp only [DvOK, ev_o11, ev_o12, ev_o13] at this ⊢
    exact this
  · rw [ev_2] at e1
    by_cases he : e = M 2 0
    · subst he
      have e9 : ev (updE A (M 2 0) q) (M 2 0) = q := if_pos rfl
      simp only [EvOK, e9, ev_n3, ev_n4, ev_n5, ev_n6, ev_n7, ev_n8]
      exact ⟨hat.1, hat.2.1, hat.2.2.1, hat.2.2.2.1, hat.2.2.2.2.1, hat.2.2.2.2.2.1, hat.2.2.2.2.2.2.1, hat.2.2.2.2.2.2.2.1⟩
    · have he2 : e < M 2 0 := by omega
      have e9 : ev (updE A (M 2 0) q) e = ev A e := if_neg he
      have := s1.ve e e0 he2
      simp only [EvOK, e9, ev_s3 he2, ev_s4 he2, ev_s5 he2, ev_s6 he2, ev_s7 he2, ev_s8 he2] at this ⊢
      exact this
/-- what event leaves -/
def EvQ (h h' : HS) (A : AD) (M : MS) (l : List Int) (f : Int → Int) (its dv who what frm time : Int) : Prop := ∃ q h1, kD h q = 0 ∧ h1 = nwE h q its (some (nd A (10 + dv))) (if who = -1 then none else some (nd A who)) what frm time (M 2 0) ∧ Fr [68] [18, 20, 21, 42] (fun a => a = cM A) nA h1 h' ∧ fI h' 68 (cO A) = M 2 0 + 1 ∧ (∀ j, aI h' (cM A) j = if j = its then 1 else aI h (cM A) j) ∧ ChL h' (updE A (M 2 0) q) (insO (evM M its dv who what frm time) (M 2 0) l) ∧ LW h' (updE A (M 2 0) q) (jbF (evM M its dv who what frm time) f (M 2 0))

set_option maxRecDepth 100000 in
set_option maxHeartbeats 400000 in
theorem k_X6_event {l : Launch} {D : va_G} {cy : CY} (hst : l.stackTraces = false) {h : HS} {A : AD} {M : MS} {its dv who what frm time : Int} {lz : List Int} {f : Int → Int} (s : SP h A M) (v : VO h A) (hf : LW h A f) (hC : ChL h A lz) (hO : Ord M lz) (g68 : fI h 68 (cO A) = M 2 0) (hcm : ∀ j, 0 ≤ j → j < 1000 → aI h (cM A) j = M 10 j) (hits : -2147483648 ≤ its ∧ its ≤ 2147483647) (hdv : -2147483648 ≤ dv ∧ dv ≤ 2147483647) (hwho : -2147483648 ≤ who ∧ who ≤ 2147483647) (hwhat : -2147483648 ≤ what ∧ what ≤ 2147483647) (hfrm : -2147483648 ≤ frm ∧ frm ≤ 2147483647) (htime : -2147483648 ≤ time ∧ time ≤ 2147483647) : Ct l D cy yX6_event (Cond.code yX6_event cX6_event 10 (some .boolean)) 6 87 1 9 (RepH cy) [vr (some (cO A)), vi its, vi dv, vi who, vi what, vi frm, vi time] h (fun r h' => (((0 ≤ its ∧ its ≤ 999) ∧ (0 ≤ dv ∧ dv ≤ 9) ∧ (-1 ≤ who ∧ who ≤ 9) ∧ (0 ≤ what ∧ what ≤ 4) ∧ (-1 ≤ frm ∧ frm ≤ 9) ∧ (0 ≤ time ∧ time ≤ 100000)) ∧ M 10 its = 0 ∧ M 2 0 < 200 ∧ EvQ h h' A M lz f its dv who what frm time ∧ r = .ok (some (vi 1))) ∨ (((0 ≤ its ∧ its ≤ 999) ∧ (0 ≤ dv ∧ dv ≤ 9) ∧ (-1 ≤ who ∧ who ≤ 9) ∧ (0 ≤ what ∧ what ≤ 4) ∧ (-1 ≤ frm ∧ frm ≤ 9) ∧ (0 ≤ time ∧ time ≤ 100000)) ∧ M 10 its = 1 ∧ h' = h ∧ r = .ok (some (vi 0))) ∨ (((0 ≤ its ∧ its ≤ 999) ∧ (0 ≤ dv ∧ dv ≤ 9) ∧ (-1 ≤ who ∧ who ≤ 9) ∧ (0 ≤ what ∧ what ≤ 4) ∧ (-1 ≤ frm ∧ frm ≤ 9) ∧ (0 ≤ time ∧ time ≤ 100000)) ∧ M 10 its = 0 ∧ M 2 0 = 200 ∧ h' = h ∧ r = .error "java/lang/IllegalStateException") ∨ (¬ ((0 ≤ its ∧ its ≤ 999) ∧ (0 ≤ dv ∧ dv ≤ 9) ∧ (-1 ≤ who ∧ who ≤ 9) ∧ (0 ≤ what ∧ what ≤ 4) ∧ (-1 ≤ frm ∧ frm ≤ 9) ∧ (0 ≤ time ∧ time ≤ 100000)) ∧ h' = h ∧ r = .error "java/lang/IllegalArgumentException")) := by
  refine Ct.of1 (own := RX6) hst (by decide) rfl (Nat.le_of_ble_eq_true rfl) (cat1 (vr_cat _) (cat1 (vi_cat _) (cat1 (vi_cat _) (cat1 (vi_cat _) (cat1 (vi_cat _) (cat1 (vi_cat _) (cat1 (vi_cat _) (cat0)))))))) ?_
  intro φ C hQ hn hR hl hD
  subst hl hD
  obtain ⟨v0, v60, v61, v62, v63, v64, vn, vnl, vnr, vm, vml, vh, vt, vw, vwl⟩ := id v
  have hM2 := s.mi.n
  have h10 := s.mi.b10 its
  by_cases hx2 : 0 ≤ dv ∧ dv < 10
  · by_cases hw2 : 0 ≤ who ∧ who < 10
    ·
      refine x_aload_n C dX6_event_0 rfl rfl ?_
      refine x_iload_n C dX6_event_1 rfl rfl ?_
      refine x_callV C hR cb_X6_deviceAt cv_X6_deviceAt u4_12 (k_X6_deviceAt (M := M) hst v (by omega)) (h_recv v0 (by decide)) ⟨_, _, rfl⟩ rfl (Nat.le_of_ble_eq_true rfl) rfl dX6_event_2 (by decide) (by decide) (fun E x9 h9 => absurd h9.1 (by intro h; cases h)) (fun r9 x9 h9 => ?_)
      obtain ⟨e9, q9⟩ := h9
      cases e9
      subst x9
      rw [if_pos hx2]
      refine x_astore C dX6_event_5 (by rw [hn]; exact Nat.le_of_ble_eq_true rfl) ?_
      refine x_aload_n C dX6_event_7 rfl rfl ?_
      refine x_iload_n C dX6_event_8 rfl rfl ?_
      refine x_callV C hR cb_X6_accountAt cv_X6_accountAt u4_20 (k_X6_accountAt (M := M) hst v (by omega)) (h_recv v0 (by decide)) ⟨_, _, rfl⟩ rfl (Nat.le_of_ble_eq_true rfl) rfl dX6_event_9 (by decide) (by decide) (fun E x9 h9 => absurd h9.1 (by intro h; cases h)) (fun r9 x9 h9 => ?_)
      obtain ⟨e9, q9⟩ := h9
      cases e9
      subst x9
      rw [if_pos hw2]
      refine x_astore C dX6_event_12 (by rw [hn]; exact Nat.le_of_ble_eq_true rfl) ?_
      refine x_iload_n C dX6_event_14 rfl rfl ?_
      refine x_if_lt (tgt := 71) C dX6_event_15 (by decide) (by first | omega | exact bi_rng _) (fun h15 => ?_) (fun h15 => ?_)
      ·
        refine x_throwS C hQ hR th_IAE (List.mem_of_getElem? (i := 0) rfl) dX6_event_71 dX6_event_74 dX6_event_75 dX6_event_77 dX6_event_80 (by decide) (by decide) (by decide) (by decide) ?_
        first
        | (exfalso; cases h29; done)
        | exact Or.inr (Or.inr (Or.inr ⟨by omega, rfl, rfl⟩))
      ·
        refine x_iload_n C dX6_event_18 rfl rfl ?_
        refine x_aload_n C dX6_event_19 rfl rfl ?_
        refine h_get6 (f := 1) C v0 (by decide) u0_18 rfl rfl dX6_event_20 ?_
        simp only [v61]
        refine h_alen C (by omega) dX6_event_23 ?_
        simp only [vml]
        refine x_icmp_ge (tgt := 71) C dX6_event_24 (by decide) (by omega) (by omega) (fun h24 => ?_) (fun h24 => ?_)
        ·
          refine x_throwS C hQ hR th_IAE (List.mem_of_getElem? (i := 0) rfl) dX6_event_71 dX6_event_74 dX6_event_75 dX6_event_77 dX6_event_80 (by decide) (by decide) (by decide) (by decide) ?_
          first
          | (exfalso; cases h29; done)
          | exact Or.inr (Or.inr (Or.inr ⟨by omega, rfl, rfl⟩))
        ·
          refine x_aload C dX6_event_27 rfl ?_
          refine x_ifnull (tgt := 71) C dX6_event_29 (by decide) (fun h29 => ?_) (fun a29 h29 => ?_)
          ·
            refine x_throwS C hQ hR th_IAE (List.mem_of_getElem? (i := 0) rfl) dX6_event_71 dX6_event_74 dX6_event_75 dX6_event_77 dX6_event_80 (by decide) (by decide) (by decide) (by decide) ?_
            first
            | (exfalso; cases h29; done)
            | exact Or.inr (Or.inr (Or.inr ⟨by omega, rfl, rfl⟩))
          ·
            refine x_aload C dX6_event_32 rfl ?_
            refine x_ifnonnull (tgt := 42) C dX6_event_34 (by decide) (fun a34 h34 => ?_) (fun h34 => ?_)
            ·
              refine x_iload C dX6_event_42 rfl ?_
              refine x_callS C hR cb_X6_isKind u2_14 u2_13 (k_X6_isKind (M := M) (A := A) hst (by omega)) rfl (Nat.le_of_ble_eq_true rfl) rfl dX6_event_44 (by decide) (by decide) (fun E x9 h9 => absurd h9.1 (by intro h; cases h)) (fun r9 x9 h9 => ?_)
              obtain ⟨e9, q9⟩ := h9
              cases e9
              subst x9
              refine x_if_eq (tgt := 71) C dX6_event_47 (by decide) (by first | omega | exact bi_rng _) (fun h47 => ?_) (fun h47 => ?_)
              ·
                replace h47 := bi_eq0.mp h47
                refine x_throwS C hQ hR th_IAE (List.mem_of_getElem? (i := 0) rfl) dX6_event_71 dX6_event_74 dX6_event_75 dX6_event_77 dX6_event_80 (by decide) (by decide) (by decide) (by decide) ?_
                first
                | (exfalso; cases h29; done)
                | exact Or.inr (Or.inr (Or.inr ⟨by omega, rfl, rfl⟩))
              ·
                replace h47 := bi_ne0.mp h47
                refine x_iload C dX6_event_50 rfl ?_
                refine x_iconst C dX6_event_52 ?_
                refine x_icmp_lt (tgt := 71) C dX6_event_53 (by decide) (by first | omega | exact bi_rng _) (by first | omega | exact bi_rng _) (fun h53 => ?_) (fun h53 => ?_)
                ·
                  refine x_throwS C hQ hR th_IAE (List.mem_of_getElem? (i := 0) rfl) dX6_event_71 dX6_event_74 dX6_event_75 dX6_event_77 dX6_event_80 (by decide) (by decide) (by decide) (by decide) ?_
                  first
                  | (exfalso; cases h29; done)
                  | exact Or.inr (Or.inr (Or.inr ⟨by omega, rfl, rfl⟩))
                ·
                  refine x_iload C dX6_event_56 rfl ?_
                  refine x_bipush C dX6_event_58 (by decide) ?_
                  refine x_icmp_ge (tgt := 71) C dX6_event_60 (by decide) (by first | omega | exact bi_rng _) (by first | omega | exact bi_rng _) (fun h60 => ?_) (fun h60 => ?_)
                  ·
                    refine x_throwS C hQ hR th_IAE (List.mem_of_getElem? (i := 0) rfl) dX6_event_71 dX6_event_74 dX6_event_75 dX6_event_77 dX6_event_80 (by decide) (by decide) (by decide) (by decide) ?_
                    first
                    | (exfalso; cases h29; done)
                    | exact Or.inr (Or.inr (Or.inr ⟨by omega, rfl, rfl⟩))
                  ·
                    refine x_iload C dX6_event_63 rfl ?_
                    refine x_callS C hR cb_X6_isMinute u5_1 u5_0 (k_X6_isMinute (M := M) (A := A) hst (by omega)) rfl (Nat.le_of_ble_eq_true rfl) rfl dX6_event_65 (by decide) (by decide) (fun E x9 h9 => absurd h9.1 (by intro h; cases h)) (fun r9 x9 h9 => ?_)
                    obtain ⟨e9, q9⟩ := h9
                    cases e9
                    subst x9
                    refine x_if_ne (tgt := 81) C dX6_event_68 (by decide) (by first | omega | exact bi_rng _) (fun h68 => ?_) (fun h68 => ?_)
                    ·
                      replace h68 := bi_ne0.mp h68
                      refine x_aload_n C dX6_event_81 rfl rfl ?_
                      refine h_get6 (f := 1) C v0 (by decide) u0_18 rfl rfl dX6_event_82 ?_
                      simp only [v61]
                      refine x_iload_n C dX6_event_85 rfl rfl ?_
                      refine h_zald C vm (by rw [vml]; omega) (by rw [vml]; omega) dX6_event_86 ?_
                      simp only [hcm its (by omega) (by omega)]
                      refine x_if_eq (tgt := 92) C dX6_event_87 (by decide) (by omega) (fun h87 => ?_) (fun h87 => ?_)
                      ·
                        refine x_aload_n C dX6_event_92 rfl rfl ?_
                        refine h_get6 (f := 8) C v0 (by decide) u4_8 rfl rfl dX6_event_93 ?_
                        simp only [g68]
                        refine x_sipush C dX6_event_96 (by decide) ?_
                        refine x_icmp_lt (tgt := 112) C dX6_event_99 (by decide) (by omega) (by omega) (fun h99 => ?_) (fun h99 => ?_)
                        ·
                          refine h_new1 C hR u4_9 u4_10 u4_11 (by decide) dX6_event_112 (fun q112 hq112 => ?_)
                          have vN := (Ex.newO (kd := 2) hq112).vo v
                          obtain ⟨vN0, -⟩ := id vN
                          have cN8 : fI (newO h 2 q112) 68 (cO A) = M 2 0 := ((Ex.newO (kd := 2) hq112) (cO A) (by omega)).2.2.1 68 |>.trans g68
                          refine x_dup C dX6_event_115 (by first | rfl | exact vr_cat _ | exact vi_cat _) ?_
                          refine x_iload_n C dX6_event_116 rfl rfl ?_
                          refine x_aload C dX6_event_117 rfl ?_
                          refine x_aload C dX6_event_119 rfl ?_
                          refine x_iload C dX6_event_121 rfl ?_
                          refine x_iload C dX6_event_123 rfl ?_
                          refine x_iload C dX6_event_125 rfl ?_
                          refine x_aload_n C dX6_event_127 rfl rfl ?_
                          refine h_get6 (f := 8) C vN0 (by decide) u4_8 rfl rfl dX6_event_128 ?_
                          simp only [cN8]
                          refine x_callI C hR cb_X1_init u5_5 rfl u5_4 (k_X1_init (A := A) (M := M) hst (h := newO h 2 q112) (a := q112) (if_pos rfl)) rfl (Nat.le_of_ble_eq_true rfl) rfl dX6_event_131 (by decide) (by decide) (fun E x9 h9 => absurd h9 (by first | (intro h; cases h.1) | (rintro ⟨_, h, _⟩; cases h) | (rintro ⟨_, _, h, _⟩; cases h))) (fun r9 x9 h9 => ?_)
                          obtain ⟨e9, q9⟩ := h9
                          cases e9
                          have q9 : x9 = nwE h q112 its (some (nd A (10 + dv))) (if who = -1 then none else some (nd A who)) what frm time (M 2 0) := by
                            rw [if_neg (show ¬ who = -1 by omega)]
                            exact q9
                          have hex : Ex h x9 := by rw [q9]; exact nwE_ex hq112
                          have s9 : SP x9 (updE A (M 2 0) q112) (evM M its dv who what frm time) := by rw [q9]; exact s.ev3 hq112 h99 (by omega) (by omega) (by omega) (by omega) (by omega) (by omega)
                          have v9 := hex.vo v
                          obtain ⟨b0, b60, b61, b62, b63, b64, bn, bnl, bnr, bm, bml, bh, -⟩ := id v9
                          have c68 := ((hex (cO A) (by omega)).2.2.1 68).trans g68
                          have cM9 := (hex (cM A) (by omega)).2.2.2.2.1
                          refine x_astore C dX6_event_134 (by rw [hn]; exact Nat.le_of_ble_eq_true rfl) ?_
                          refine x_aload_n C dX6_event_136 rfl rfl ?_
                          refine h_get6 (f := 1) C b0 (by decide) u0_18 rfl rfl dX6_event_137 ?_
                          simp only [b61]
                          refine x_iload_n C dX6_event_140 rfl rfl ?_
                          refine x_iconst C dX6_event_141 ?_
                          refine h_zast C bm (by rw [bml]; omega) (by rw [bml]; omega) (by decide) dX6_event_142 ?_
                          refine x_aload_n C dX6_event_143 rfl rfl ?_
                          refine x_dup C dX6_event_144 (by first | rfl | exact vr_cat _ | exact vi_cat _) ?_
                          refine h_get6 (f := 8) C b0 (by decide) u4_8 rfl rfl dX6_event_145 ?_
                          change X φ _ _ _ _ _ (vi (fI x9 68 (cO A)) :: _)
                          simp only [c68]
                          refine x_iconst C dX6_event_148 ?_
                          refine x_iadd C dX6_event_149 ?_
                          refine h_put6 (f := 8) (h' := setI _ 68 _ _) C b0 (by decide) u4_8 rfl rfl (tyX6_ok 8 (by decide)) (fit_vi _) (cs6_8 b0) (fun _ => rfl) (fun _ hx => cell_setI_ne hx) dX6_event_150 ?_
                          have hF3 : Fr [68] [18, 20, 21, 42] (fun a => a = cM A) nA x9 (setI (setA x9 (cM A) its 1) 68 (cO A) (M 2 0 + 1)) := Fr.tr (Fr.sA (a := cM A) (j := its) (z := 1) rfl) (Fr.sI (by decide))
                          have s3 := hF3.sp s9
                          have v3 : VO (setI (setA x9 (cM A) its 1) 68 (cO A) (M 2 0 + 1)) (updE A (M 2 0) q112) := hF3.vo v9 (by unfold nA; exact id)
                          obtain ⟨w0, w60, w61, w62, w63, w64, wn, wnl, wnr, wm, wml, wh, -⟩ := id v3
                          have hl : ∀ e ∈ lz, 0 ≤ e ∧ e < M 2 0 := fun e he => ((hO.2 e).mp he).1
                          have hev : ∀ e ∈ lz, ev (updE A (M 2 0) q112) e = ev A e := fun e he => if_neg (by have := (hl e he).2; omega)
                          have hC3 : ChL (setI (setA x9 (cM A) its 1) 68 (cO A) (M 2 0 + 1)) (updE A (M 2 0) q112) lz := by
                            have := hex.ch s vh hl hC
                            exact ChL_A (A := A) rfl hev ⟨LG_cong (h := x9) (fun _ _ => rfl) this.1, this.2⟩
                          have hf3 : LW (setI (setA x9 (cM A) its 1) 68 (cO A) (M 2 0 + 1)) (updE A (M 2 0) q112) f := (hex.lw s hf).cg
                          have hnl : M 2 0 ∉ lz := fun q => by have := (hl _ q).2; omega
                          have hn3 : 0 ≤ M 2 0 ∧ M 2 0 < (evM M its dv who what frm time) 2 0 := by rw [ev_2]; omega
                          have y62 : fP (setI (setA x9 (cM A) its 1) 68 (cO A) (M 2 0 + 1)) 62 (cO A) = some (cH A) := w62
                          have hqe : q112 = ev (updE A (M 2 0) q112) (M 2 0) := (if_pos rfl).symm
                          have ek3 : kD (setI (setA x9 (cM A) its 1) 68 (cO A) (M 2 0 + 1)) (ev (updE A (M 2 0) q112) (M 2 0)) = 2 := (s3.ve _ hn3.1 hn3.2).1
                          rw [show some q112 = some (ev (updE A (M 2 0) q112) (M 2 0)) by rw [← hqe]]
                          refine x_aload_n C dX6_event_153 rfl rfl ?_
                          refine h_get6 (f := 2) C w0 (by decide) u0_22 rfl rfl dX6_event_154 ?_
                          simp only [y62]
                          refine x_aload C dX6_event_157 rfl ?_
                          refine x_callV C hR cb_X2_put cv_X2_put u5_15 (k_X2_put hst s3 wh hC3 (fun e he => by rw [ev_2]; have := hl e he; omega) (ev_pw hO) hn3 hnl) (h_recv wh (by decide)) ⟨_, _, rfl⟩ rfl (Nat.le_of_ble_eq_true rfl) rfl dX6_event_159 (by decide) (by decide) (fun E x9 h9 => absurd h9.1 (by intro h; cases h)) (fun r9 x9 h9 => ?_)
                          obtain ⟨e9, hN4, hC4, -⟩ := h9
                          cases e9
                          have s4 := hN4.sp s3
                          have hF4 := hF3.tr (hN4.fr (by decide) (by decide) (by decide))
                          have v4 : VO _ (updE A (M 2 0) q112) := (hN4.fr (fi := []) (fp := [18, 20, 21]) (ai := nA) (ar := nA) (by decide) (by decide) (by decide)).vo v3 (by unfold nA; exact id)
                          obtain ⟨y0, -⟩ := id v4
                          have hf4 : LW _ (updE A (M 2 0) q112) f := hf3.cg (hN4.2.2.2.2.2 42 (by decide) (by decide) (by decide))
                          refine x_aload_n C dX6_event_162 rfl rfl ?_
                          refine x_aload C dX6_event_163 rfl ?_
                          refine x_callV C hR cb_X6_joinBy cv_X6_joinBy u6_11 (k_X6_joinBy hst s4 v4 hf4 hn3) (h_recv y0 (by decide)) ⟨_, _, rfl⟩ rfl (Nat.le_of_ble_eq_true rfl) rfl dX6_event_165 (by decide) (by decide) (fun E x9 h9 => absurd h9.1 (by intro h; cases h)) (fun r9 x9 h9 => ?_)
                          obtain ⟨e9, hL5, hf5⟩ := h9
                          cases e9
                          refine x_iconst C dX6_event_168 ?_
                          refine x_iret (ty := .boolean) C hQ dX6_event_169 rfl (by decide) (by decide) (by decide) ?_
                          exact Or.inl ⟨by omega, by omega, by omega, ⟨q112, _, hq112, q9, hF4.tr (hL5.fr (by decide)), by rw [hL5.2.1, hN4.2.1]; exact fI_set_eq, fun j => by
                            rw [hL5.2.2.2.1, hN4.2.2.2.1]
                            show aI (setA _ (cM A) its 1) (cM A) j = _
                            rw [aI_setA, cM9]
                            by_cases hj : j = its
                            · rw [if_pos hj, if_pos ⟨rfl, hj⟩]
                            · rw [if_neg hj, if_neg (fun q => hj q.2)], ⟨by rw [hL5.2.2.2.2.2 20 (by decide)]; exact hL5.lg hC4.1, by rw [hL5.2.2.2.2.2 21 (by decide)]; exact hC4.2⟩, hf5⟩, rfl⟩
                        ·
                          refine x_throwS C hQ hR th_ISE (List.mem_of_getElem? (i := 1) rfl) dX6_event_102 dX6_event_105 dX6_event_106 dX6_event_108 dX6_event_111 (by decide) (by decide) (by decide) (by decide) ?_
                          exact Or.inr (Or.inr (Or.inl ⟨by omega, by omega, by omega, rfl, rfl⟩))
                      ·
                        refine x_iconst C dX6_event_90 ?_
                        refine x_iret (ty := .boolean) C hQ dX6_event_91 rfl (by decide) (by decide) (by decide) ?_
                        exact Or.inr (Or.inl ⟨by omega, by omega, rfl, rfl⟩)
                    ·
                      replace h68 := bi_eq0.mp h68
                      refine x_throwS C hQ hR th_IAE (List.mem_of_getElem? (i := 0) rfl) dX6_event_71 dX6_event_74 dX6_event_75 dX6_event_77 dX6_event_80 (by decide) (by decide) (by decide) (by decide) ?_
                      first
                      | (exfalso; cases h29; done)
                      | exact Or.inr (Or.inr (Or.inr ⟨by omega, rfl, rfl⟩))
            ·
              cases h34
    ·
      refine x_aload_n C dX6_event_0 rfl rfl ?_
      refine x_iload_n C dX6_event_1 rfl rfl ?_
      refine x_callV C hR cb_X6_deviceAt cv_X6_deviceAt u4_12 (k_X6_deviceAt (M := M) hst v (by omega)) (h_recv v0 (by decide)) ⟨_, _, rfl⟩ rfl (Nat.le_of_ble_eq_true rfl) rfl dX6_event_2 (by decide) (by decide) (fun E x9 h9 => absurd h9.1 (by intro h; cases h)) (fun r9 x9 h9 => ?_)
      obtain ⟨e9, q9⟩ := h9
      cases e9
      subst x9
      rw [if_pos hx2]
      refine x_astore C dX6_event_5 (by rw [hn]; exact Nat.le_of_ble_eq_true rfl) ?_
      refine x_aload_n C dX6_event_7 rfl rfl ?_
      refine x_iload_n C dX6_event_8 rfl rfl ?_
      refine x_callV C hR cb_X6_accountAt cv_X6_accountAt u4_20 (k_X6_accountAt (M := M) hst v (by omega)) (h_recv v0 (by decide)) ⟨_, _, rfl⟩ rfl (Nat.le_of_ble_eq_true rfl) rfl dX6_event_9 (by decide) (by decide) (fun E x9 h9 => absurd h9.1 (by intro h; cases h)) (fun r9 x9 h9 => ?_)
      obtain ⟨e9, q9⟩ := h9
      cases e9
      subst x9
      rw [if_neg hw2]
      refine x_astore C dX6_event_12 (by rw [hn]; exact Nat.le_of_ble_eq_true rfl) ?_
      refine x_iload_n C dX6_event_14 rfl rfl ?_
      refine x_if_lt (tgt := 71) C dX6_event_15 (by decide) (by first | omega | exact bi_rng _) (fun h15 => ?_) (fun h15 => ?_)
      ·
        refine x_throwS C hQ hR th_IAE (List.mem_of_getElem? (i := 0) rfl) dX6_event_71 dX6_event_74 dX6_event_75 dX6_event_77 dX6_event_80 (by decide) (by decide) (by decide) (by decide) ?_
        first
        | (exfalso; cases h29; done)
        | exact Or.inr (Or.inr (Or.inr ⟨by omega, rfl, rfl⟩))
      ·
        refine x_iload_n C dX6_event_18 rfl rfl ?_
        refine x_aload_n C dX6_event_19 rfl rfl ?_
        refine h_get6 (f := 1) C v0 (by decide) u0_18 rfl rfl dX6_event_20 ?_
        simp only [v61]
        refine h_alen C (by omega) dX6_event_23 ?_
        simp only [vml]
        refine x_icmp_ge (tgt := 71) C dX6_event_24 (by decide) (by omega) (by omega) (fun h24 => ?_) (fun h24 => ?_)
        ·
          refine x_throwS C hQ hR th_IAE (List.mem_of_getElem? (i := 0) rfl) dX6_event_71 dX6_event_74 dX6_event_75 dX6_event_77 dX6_event_80 (by decide) (by decide) (by decide) (by decide) ?_
          first
          | (exfalso; cases h29; done)
          | exact Or.inr (Or.inr (Or.inr ⟨by omega, rfl, rfl⟩))
        ·
          refine x_aload C dX6_event_27 rfl ?_
          refine x_ifnull (tgt := 71) C dX6_event_29 (by decide) (fun h29 => ?_) (fun a29 h29 => ?_)
          ·
            refine x_throwS C hQ hR th_IAE (List.mem_of_getElem? (i := 0) rfl) dX6_event_71 dX6_event_74 dX6_event_75 dX6_event_77 dX6_event_80 (by decide) (by decide) (by decide) (by decide) ?_
            first
            | (exfalso; cases h29; done)
            | exact Or.inr (Or.inr (Or.inr ⟨by omega, rfl, rfl⟩))
          ·
            refine x_aload C dX6_event_32 rfl ?_
            refine x_ifnonnull (tgt := 42) C dX6_event_34 (by decide) (fun a34 h34 => ?_) (fun h34 => ?_)
            ·
              cases h34
            ·
              refine x_iload_n C dX6_event_37 rfl rfl ?_
              refine x_iconst C dX6_event_38 ?_
              refine x_icmp_ne (tgt := 71) C dX6_event_39 (by decide) (by omega) (by omega) (fun h39 => ?_) (fun h39 => ?_)
              ·
                refine x_throwS C hQ hR th_IAE (List.mem_of_getElem? (i := 0) rfl) dX6_event_71 dX6_event_74 dX6_event_75 dX6_event_77 dX6_event_80 (by decide) (by decide) (by decide) (by decide) ?_
                first
                | (exfalso; cases h29; done)
                | exact Or.inr (Or.inr (Or.inr ⟨by omega, rfl, rfl⟩))
              ·
                refine x_iload C dX6_event_42 rfl ?_
                refine x_callS C hR cb_X6_isKind u2_14 u2_13 (k_X6_isKind (M := M) (A := A) hst (by omega)) rfl (Nat.le_of_ble_eq_true rfl) rfl dX6_event_44 (by decide) (by decide) (fun E x9 h9 => absurd h9.1 (by intro h; cases h)) (fun r9 x9 h9 => ?_)
                obtain ⟨e9, q9⟩ := h9
                cases e9
                subst x9
                refine x_if_eq (tgt := 71) C dX6_event_47 (by decide) (by first | omega | exact bi_rng _) (fun h47 => ?_) (fun h47 => ?_)
                ·
                  replace h47 := bi_eq0.mp h47
                  refine x_throwS C hQ hR th_IAE (List.mem_of_getElem? (i := 0) rfl) dX6_event_71 dX6_event_74 dX6_event_75 dX6_event_77 dX6_event_80 (by decide) (by decide) (by decide) (by decide) ?_
                  first
                  | (exfalso; cases h29; done)
                  | exact Or.inr (Or.inr (Or.inr ⟨by omega, rfl, rfl⟩))
                ·
                  replace h47 := bi_ne0.mp h47
                  refine x_iload C dX6_event_50 rfl ?_
                  refine x_iconst C dX6_event_52 ?_
                  refine x_icmp_lt (tgt := 71) C dX6_event_53 (by decide) (by first | omega | exact bi_rng _) (by first | omega | exact bi_rng _) (fun h53 => ?_) (fun h53 => ?_)
                  ·
                    refine x_throwS C hQ hR th_IAE (List.mem_of_getElem? (i := 0) rfl) dX6_event_71 dX6_event_74 dX6_event_75 dX6_event_77 dX6_event_80 (by decide) (by decide) (by decide) (by decide) ?_
                    first
                    | (exfalso; cases h29; done)
                    | exact Or.inr (Or.inr (Or.inr ⟨by omega, rfl, rfl⟩))
                  ·
                    refine x_iload C dX6_event_56 rfl ?_
                    refine x_bipush C dX6_event_58 (by decide) ?_
                    refine x_icmp_ge (tgt := 71) C dX6_event_60 (by decide) (by first | omega | exact bi_rng _) (by first | omega | exact bi_rng _) (fun h60 => ?_) (fun h60 => ?_)
                    ·
                      refine x_throwS C hQ hR th_IAE (List.mem_of_getElem? (i := 0) rfl) dX6_event_71 dX6_event_74 dX6_event_75 dX6_event_77 dX6_event_80 (by decide) (by decide) (by decide) (by decide) ?_
                      first
                      | (exfalso; cases h29; done)
                      | exact Or.inr (Or.inr (Or.inr ⟨by omega, rfl, rfl⟩))
                    ·
                      refine x_iload C dX6_event_63 rfl ?_
                      refine x_callS C hR cb_X6_isMinute u5_1 u5_0 (k_X6_isMinute (M := M) (A := A) hst (by omega)) rfl (Nat.le_of_ble_eq_true rfl) rfl dX6_event_65 (by decide) (by decide) (fun E x9 h9 => absurd h9.1 (by intro h; cases h)) (fun r9 x9 h9 => ?_)
                      obtain ⟨e9, q9⟩ := h9
                      cases e9
                      subst x9
                      refine x_if_ne (tgt := 81) C dX6_event_68 (by decide) (by first | omega | exact bi_rng _) (fun h68 => ?_) (fun h68 => ?_)
                      ·
                        replace h68 := bi_ne0.mp h68
                        refine x_aload_n C dX6_event_81 rfl rfl ?_
                        refine h_get6 (f := 1) C v0 (by decide) u0_18 rfl rfl dX6_event_82 ?_
                        simp only [v61]
                        refine x_iload_n C dX6_event_85 rfl rfl ?_
                        refine h_zald C vm (by rw [vml]; omega) (by rw [vml]; omega) dX6_event_86 ?_
                        simp only [hcm its (by omega) (by omega)]
                        refine x_if_eq (tgt := 92) C dX6_event_87 (by decide) (by omega) (fun h87 => ?_) (fun h87 => ?_)
                        ·
                          refine x_aload_n C dX6_event_92 rfl rfl ?_
                          refine h_get6 (f := 8) C v0 (by decide) u4_8 rfl rfl dX6_event_93 ?_
                          simp only [g68]
                          refine x_sipush C dX6_event_96 (by decide) ?_
                          refine x_icmp_lt (tgt := 112) C dX6_event_99 (by decide) (by omega) (by omega) (fun h99 => ?_) (fun h99 => ?_)
                          ·
                            refine h_new1 C hR u4_9 u4_10 u4_11 (by decide) dX6_event_112 (fun q112 hq112 => ?_)
                            have vN := (Ex.newO (kd := 2) hq112).vo v
                            obtain ⟨vN0, -⟩ := id vN
                            have cN8 : fI (newO h 2 q112) 68 (cO A) = M 2 0 := ((Ex.newO (kd := 2) hq112) (cO A) (by omega)).2.2.1 68 |>.trans g68
                            refine x_dup C dX6_event_115 (by first | rfl | exact vr_cat _ | exact vi_cat _) ?_
                            refine x_iload_n C dX6_event_116 rfl rfl ?_
                            refine x_aload C dX6_event_117 rfl ?_
                            refine x_aload C dX6_event_119 rfl ?_
                            refine x_iload C dX6_event_121 rfl ?_
                            refine x_iload C dX6_event_123 rfl ?_
                            refine x_iload C dX6_event_125 rfl ?_
                            refine x_aload_n C dX6_event_127 rfl rfl ?_
                            refine h_get6 (f := 8) C vN0 (by decide) u4_8 rfl rfl dX6_event_128 ?_
                            simp only [cN8]
                            refine x_callI C hR cb_X1_init u5_5 rfl u5_4 (k_X1_init (A := A) (M := M) hst (h := newO h 2 q112) (a := q112) (if_pos rfl)) rfl (Nat.le_of_ble_eq_true rfl) rfl dX6_event_131 (by decide) (by decide) (fun E x9 h9 => absurd h9 (by first | (intro h; cases h.1) | (rintro ⟨_, h, _⟩; cases h) | (rintro ⟨_, _, h, _⟩; cases h))) (fun r9 x9 h9 => ?_)
                            obtain ⟨e9, q9⟩ := h9
                            cases e9
                            have q9 : x9 = nwE h q112 its (some (nd A (10 + dv))) (if who = -1 then none else some (nd A who)) what frm time (M 2 0) := by
                              rw [if_pos (show who = -1 by omega)]
                              exact q9
                            have hex : Ex h x9 := by rw [q9]; exact nwE_ex hq112
                            have s9 : SP x9 (updE A (M 2 0) q112) (evM M its dv who what frm time) := by rw [q9]; exact s.ev3 hq112 h99 (by omega) (by omega) (by omega) (by omega) (by omega) (by omega)
                            have v9 := hex.vo v
                            obtain ⟨b0, b60, b61, b62, b63, b64, bn, bnl, bnr, bm, bml, bh, -⟩ := id v9
                            have c68 := ((hex (cO A) (by omega)).2.2.1 68).trans g68
                            have cM9 := (hex (cM A) (by omega)).2.2.2.2.1
                            refine x_astore C dX6_event_134 (by rw [hn]; exact Nat.le_of_ble_eq_true rfl) ?_
                            refine x_aload_n C dX6_event_136 rfl rfl ?_
                            refine h_get6 (f := 1) C b0 (by decide) u0_18 rfl rfl dX6_event_137 ?_
                            simp only [b61]
                            refine x_iload_n C dX6_event_140 rfl rfl ?_
                            refine x_iconst C dX6_event_141 ?_
                            refine h_zast C bm (by rw [bml]; omega) (by rw [bml]; omega) (by decide) dX6_event_142 ?_
                            refine x_aload_n C dX6_event_143 rfl rfl ?_
                            refine x_dup C dX6_event_144 (by first | rfl | exact vr_cat _ | exact vi_cat _) ?_
                            refine h_get6 (f := 8) C b0 (by decide) u4_8 rfl rfl dX6_event_145 ?_
                            change X φ _ _ _ _ _ (vi (fI x9 68 (cO A)) :: _)
                            simp only [c68]
                            refine x_iconst C dX6_event_148 ?_
                            refine x_iadd C dX6_event_149 ?_
                            refine h_put6 (f := 8) (h' := setI _ 68 _ _) C b0 (by decide) u4_8 rfl rfl (tyX6_ok 8 (by decide)) (fit_vi _) (cs6_8 b0) (fun _ => rfl) (fun _ hx => cell_setI_ne hx) dX6_event_150 ?_
                            have hF3 : Fr [68] [18, 20, 21, 42] (fun a => a = cM A) nA x9 (setI (setA x9 (cM A) its 1) 68 (cO A) (M 2 0 + 1)) := Fr.tr (Fr.sA (a := cM A) (j := its) (z := 1) rfl) (Fr.sI (by decide))
                            have s3 := hF3.sp s9
                            have v3 : VO (setI (setA x9 (cM A) its 1) 68 (cO A) (M 2 0 + 1)) (updE A (M 2 0) q112) := hF3.vo v9 (by unfold nA; exact id)
                            obtain ⟨w0, w60, w61, w62, w63, w64, wn, wnl, wnr, wm, wml, wh, -⟩ := id v3
                            have hl : ∀ e ∈ lz, 0 ≤ e ∧ e < M 2 0 := fun e he => ((hO.2 e).mp he).1
                            have hev : ∀ e ∈ lz, ev (updE A (M 2 0) q112) e = ev A e := fun e he => if_neg (by have := (hl e he).2; omega)
                            have hC3 : ChL (setI (setA x9 (cM A) its 1) 68 (cO A) (M 2 0 + 1)) (updE A (M 2 0) q112) lz := by
                              have := hex.ch s vh hl hC
                              exact ChL_A (A := A) rfl hev ⟨LG_cong (h := x9) (fun _ _ => rfl) this.1, this.2⟩
                            have hf3 : LW (setI (setA x9 (cM A) its 1) 68 (cO A) (M 2 0 + 1)) (updE A (M 2 0) q112) f := (hex.lw s hf).cg
                            have hnl : M 2 0 ∉ lz := fun q => by have := (hl _ q).2; omega
                            have hn3 : 0 ≤ M 2 0 ∧ M 2 0 < (evM M its dv who what frm time) 2 0 := by rw [ev_2]; omega
                            have y62 : fP (setI (setA x9 (cM A) its 1) 68 (cO A) (M 2 0 + 1)) 62 (cO A) = some (cH A) := w62
                            have hqe : q112 = ev (updE A (M 2 0) q112) (M 2 0) := (if_pos rfl).symm
                            have ek3 : kD (setI (setA x9 (cM A) its 1) 68 (cO A) (M 2 0 + 1)) (ev (updE A (M 2 0) q112) (M 2 0)) = 2 := (s3.ve _ hn3.1 hn3.2).1
                            rw [show some q112 = some (ev (updE A (M 2 0) q112) (M 2 0)) by rw [← hqe]]
                            refine x_aload_n C dX6_event_153 rfl rfl ?_
                            refine h_get6 (f := 2) C w0 (by decide) u0_22 rfl rfl dX6_event_154 ?_
                            simp only [y62]
                            refine x_aload C dX6_event_157 rfl ?_
                            refine x_callV C hR cb_X2_put cv_X2_put u5_15 (k_X2_put hst s3 wh hC3 (fun e he => by rw [ev_2]; have := hl e he; omega) (ev_pw hO) hn3 hnl) (h_recv wh (by decide)) ⟨_, _, rfl⟩ rfl (Nat.le_of_ble_eq_true rfl) rfl dX6_event_159 (by decide) (by decide) (fun E x9 h9 => absurd h9.1 (by intro h; cases h)) (fun r9 x9 h9 => ?_)
                            obtain ⟨e9, hN4, hC4, -⟩ := h9
                            cases e9
                            have s4 := hN4.sp s3
                            have hF4 := hF3.tr (hN4.fr (by decide) (by decide) (by decide))
                            have v4 : VO _ (updE A (M 2 0) q112) := (hN4.fr (fi := []) (fp := [18, 20, 21]) (ai := nA) (ar := nA) (by decide) (by decide) (by decide)).vo v3 (by unfold nA; exact id)
                            obtain ⟨y0, -⟩ := id v4
                            have hf4 : LW _ (updE A (M 2 0) q112) f := hf3.cg (hN4.2.2.2.2.2 42 (by decide) (by decide) (by decide))
                            refine x_aload_n C dX6_event_162 rfl rfl ?_
                            refine x_aload C dX6_event_163 rfl ?_
                            refine x_callV C hR cb_X6_joinBy cv_X6_joinBy u6_11 (k_X6_joinBy hst s4 v4 hf4 hn3) (h_recv y0 (by decide)) ⟨_, _, rfl⟩ rfl (Nat.le_of_ble_eq_true rfl) rfl dX6_event_165 (by decide) (by decide) (fun E x9 h9 => absurd h9.1 (by intro h; cases h)) (fun r9 x9 h9 => ?_)
                            obtain ⟨e9, hL5, hf5⟩ := h9
                            cases e9
                            refine x_iconst C dX6_event_168 ?_
                            refine x_iret (ty := .boolean) C hQ dX6_event_169 rfl (by decide) (by decide) (by decide) ?_
                            exact Or.inl ⟨by omega, by omega, by omega, ⟨q112, _, hq112, q9, hF4.tr (hL5.fr (by decide)), by rw [hL5.2.1, hN4.2.1]; exact fI_set_eq, fun j => by
                              rw [hL5.2.2.2.1, hN4.2.2.2.1]
                              show aI (setA _ (cM A) its 1) (cM A) j = _
                              rw [aI_setA, cM9]
                              by_cases hj : j = its
                              · rw [if_pos hj, if_pos ⟨rfl, hj⟩]
                              · rw [if_neg hj, if_neg (fun q => hj q.2)], ⟨by rw [hL5.2.2.2.2.2 20 (by decide)]; exact hL5.lg hC4.1, by rw [hL5.2.2.2.2.2 21 (by decide)]; exact hC4.2⟩, hf5⟩, rfl⟩
                          ·
                            refine x_throwS C hQ hR th_ISE (List.mem_of_getElem? (i := 1) rfl) dX6_event_102 dX6_event_105 dX6_event_106 dX6_event_108 dX6_event_111 (by decide) (by decide) (by decide) (by decide) ?_
                            exact Or.inr (Or.inr (Or.inl ⟨by omega, by omega, by omega, rfl, rfl⟩))
                        ·
                          refine x_iconst C dX6_event_90 ?_
                          refine x_iret (ty := .boolean) C hQ dX6_event_91 rfl (by decide) (by decide) (by decide) ?_
                          exact Or.inr (Or.inl ⟨by omega, by omega, rfl, rfl⟩)
                      ·
                        replace h68 := bi_eq0.mp h68
                        refine x_throwS C hQ hR th_IAE (List.mem_of_getElem? (i := 0) rfl) dX6_event_71 dX6_event_74 dX6_event_75 dX6_event_77 dX6_event_80 (by decide) (by decide) (by decide) (by decide) ?_
                        first
                        | (exfalso; cases h29; done)
                        | exact Or.inr (Or.inr (Or.inr ⟨by omega, rfl, rfl⟩))
  · by_cases hw2 : 0 ≤ who ∧ who < 10
    ·
      refine x_aload_n C dX6_event_0 rfl rfl ?_
      refine x_iload_n C dX6_event_1 rfl rfl ?_
      refine x_callV C hR cb_X6_deviceAt cv_X6_deviceAt u4_12 (k_X6_deviceAt (M := M) hst v (by omega)) (h_recv v0 (by decide)) ⟨_, _, rfl⟩ rfl (Nat.le_of_ble_eq_true rfl) rfl dX6_event_2 (by decide) (by decide) (fun E x9 h9 => absurd h9.1 (by intro h; cases h)) (fun r9 x9 h9 => ?_)
      obtain ⟨e9, q9⟩ := h9
      cases e9
      subst x9
      rw [if_neg hx2]
      refine x_astore C dX6_event_5 (by rw [hn]; exact Nat.le_of_ble_eq_true rfl) ?_
      refine x_aload_n C dX6_event_7 rfl rfl ?_
      refine x_iload_n C dX6_event_8 rfl rfl ?_
      refine x_callV C hR cb_X6_accountAt cv_X6_accountAt u4_20 (k_X6_accountAt (M := M) hst v (by omega)) (h_recv v0 (by decide)) ⟨_, _, rfl⟩ rfl (Nat.le_of_ble_eq_true rfl) rfl dX6_event_9 (by decide) (by decide) (fun E x9 h9 => absurd h9.1 (by intro h; cases h)) (fun r9 x9 h9 => ?_)
      obtain ⟨e9, q9⟩ := h9
      cases e9
      subst x9
      rw [if_pos hw2]
      refine x_astore C dX6_event_12 (by rw [hn]; exact Nat.le_of_ble_eq_true rfl) ?_
      refine x_iload_n C dX6_event_14 rfl rfl ?_
      refine x_if_lt (tgt := 71) C dX6_event_15 (by decide) (by first | omega | exact bi_rng _) (fun h15 => ?_) (fun h15 => ?_)
      ·
        refine x_throwS C hQ hR th_IAE (List.mem_of_getElem? (i := 0) rfl) dX6_event_71 dX6_event_74 dX6_event_75 dX6_event_77 dX6_event_80 (by decide) (by decide) (by decide) (by decide) ?_
        first
        | (exfalso; cases h29; done)
        | exact Or.inr (Or.inr (Or.inr ⟨by omega, rfl, rfl⟩))
      ·
        refine x_iload_n C dX6_event_18 rfl rfl ?_
        refine x_aload_n C dX6_event_19 rfl rfl ?_
        refine h_get6 (f := 1) C v0 (by decide) u0_18 rfl rfl dX6_event_20 ?_
        simp only [v61]
        refine h_alen C (by omega) dX6_event_23 ?_
        simp only [vml]
        refine x_icmp_ge (tgt := 71) C dX6_event_24 (by decide) (by omega) (by omega) (fun h24 => ?_) (fun h24 => ?_)
        ·
          refine x_throwS C hQ hR th_IAE (List.mem_of_getElem? (i := 0) rfl) dX6_event_71 dX6_event_74 dX6_event_75 dX6_event_77 dX6_event_80 (by decide) (by decide) (by decide) (by decide) ?_
          first
          | (exfalso; cases h29; done)
          | exact Or.inr (Or.inr (Or.inr ⟨by omega, rfl, rfl⟩))
        ·
          refine x_aload C dX6_event_27 rfl ?_
          refine x_ifnull (tgt := 71) C dX6_event_29 (by decide) (fun h29 => ?_) (fun a29 h29 => ?_)
          ·
            refine x_throwS C hQ hR th_IAE (List.mem_of_getElem? (i := 0) rfl) dX6_event_71 dX6_event_74 dX6_event_75 dX6_event_77 dX6_event_80 (by decide) (by decide) (by decide) (by decide) ?_
            first
            | (exfalso; cases h29; done)
            | exact Or.inr (Or.inr (Or.inr ⟨by omega, rfl, rfl⟩))
          ·
            cases h29
    ·
      refine x_aload_n C dX6_event_0 rfl rfl ?_
      refine x_iload_n C dX6_event_1 rfl rfl ?_
      refine x_callV C hR cb_X6_deviceAt cv_X6_deviceAt u4_12 (k_X6_deviceAt (M := M) hst v (by omega)) (h_recv v0 (by decide)) ⟨_, _, rfl⟩ rfl (Nat.le_of_ble_eq_true rfl) rfl dX6_event_2 (by decide) (by decide) (fun E x9 h9 => absurd h9.1 (by intro h; cases h)) (fun r9 x9 h9 => ?_)
      obtain ⟨e9, q9⟩ := h9
      cases e9
      subst x9
      rw [if_neg hx2]
      refine x_astore C dX6_event_5 (by rw [hn]; exact Nat.le_of_ble_eq_true rfl) ?_
      refine x_aload_n C dX6_event_7 rfl rfl ?_
      refine x_iload_n C dX6_event_8 rfl rfl ?_
      refine x_callV C hR cb_X6_accountAt cv_X6_accountAt u4_20 (k_X6_accountAt (M := M) hst v (by omega)) (h_recv v0 (by decide)) ⟨_, _, rfl⟩ rfl (Nat.le_of_ble_eq_true rfl) rfl dX6_event_9 (by decide) (by decide) (fun E x9 h9 => absurd h9.1 (by intro h; cases h)) (fun r9 x9 h9 => ?_)
      obtain ⟨e9, q9⟩ := h9
      cases e9
      subst x9
      rw [if_neg hw2]
      refine x_astore C dX6_event_12 (by rw [hn]; exact Nat.le_of_ble_eq_true rfl) ?_
      refine x_iload_n C dX6_event_14 rfl rfl ?_
      refine x_if_lt (tgt := 71) C dX6_event_15 (by decide) (by first | omega | exact bi_rng _) (fun h15 => ?_) (fun h15 => ?_)
      ·
        refine x_throwS C hQ hR th_IAE (List.mem_of_getElem? (i := 0) rfl) dX6_event_71 dX6_event_74 dX6_event_75 dX6_event_77 dX6_event_80 (by decide) (by decide) (by decide) (by decide) ?_
        first
        | (exfalso; cases h29; done)
        | exact Or.inr (Or.inr (Or.inr ⟨by omega, rfl, rfl⟩))
      ·
        refine x_iload_n C dX6_event_18 rfl rfl ?_
        refine x_aload_n C dX6_event_19 rfl rfl ?_
        refine h_get6 (f := 1) C v0 (by decide) u0_18 rfl rfl dX6_event_20 ?_
        simp only [v61]
        refine h_alen C (by omega) dX6_event_23 ?_
        simp only [vml]
        refine x_icmp_ge (tgt := 71) C dX6_event_24 (by decide) (by omega) (by omega) (fun h24 => ?_) (fun h24 => ?_)
        ·
          refine x_throwS C hQ hR th_IAE (List.mem_of_getElem? (i := 0) rfl) dX6_event_71 dX6_event_74 dX6_event_75 dX6_event_77 dX6_event_80 (by decide) (by decide) (by decide) (by decide) ?_
          first
          | (exfalso; cases h29; done)
          | exact Or.inr (Or.inr (Or.inr ⟨by omega, rfl, rfl⟩))
        ·
          refine x_aload C dX6_event_27 rfl ?_
          refine x_ifnull (tgt := 71) C dX6_event_29 (by decide) (fun h29 => ?_) (fun a29 h29 => ?_)
          ·
            refine x_throwS C hQ hR th_IAE (List.mem_of_getElem? (i := 0) rfl) dX6_event_71 dX6_event_74 dX6_event_75 dX6_event_77 dX6_event_80 (by decide) (by decide) (by decide) (by decide) ?_
            first
            | (exfalso; cases h29; done)
            | exact Or.inr (Or.inr (Or.inr ⟨by omega, rfl, rfl⟩))
          ·
            cases h29

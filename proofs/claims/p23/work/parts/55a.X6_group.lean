/-! group, event -/
theorem fI_setP (h : HS) (f a : Nat) (z : Option Nat) (f' a' : Nat) : fI (setP h f a z) f' a' = fI h f' a' := rfl
theorem fP_setI (h : HS) (f a : Nat) (z : Int) (f' a' : Nat) : fP (setI h f a z) f' a' = fP h f' a' := rfl
theorem fI_newO (h : HS) (kd q f a : Nat) : fI (newO h kd q) f a = if a = q then 0 else fI h f a := rfl
theorem fP_newO (h : HS) (kd q f a : Nat) : fP (newO h kd q) f a = if a = q then none else fP h f a := rfl
abbrev nwG (h : HS) (q : Nat) (nu p what least days : Int) : HS := setI (setI (setI (setI (setI (newO h 4 q) 30 q nu) 31 q p) 32 q what) 33 q least) 34 q days
theorem nwG_ex {h : HS} {q : Nat} {nu p what least days : Int} (hq : kD h q = 0) : Ex h (nwG h q nu p what least days) := (((((Ex.newO hq).sI hq).sI hq).sI hq).sI hq).sI hq
theorem nwG_at (h : HS) (q : Nat) (nu p what least days : Int) : kD (nwG h q nu p what least days) q = 4 ∧ fI (nwG h q nu p what least days) 30 q = nu ∧ fI (nwG h q nu p what least days) 31 q = p ∧ fI (nwG h q nu p what least days) 32 q = what ∧ fI (nwG h q nu p what least days) 33 q = least ∧ fI (nwG h q nu p what least days) 34 q = days ∧ fI (nwG h q nu p what least days) 35 q = 0 ∧ fP (nwG h q nu p what least days) 36 q = none := by
  refine ⟨if_pos rfl, ?_⟩
  simp [nwG, fI_setI, fP_setI, fI_newO, fP_newO]
abbrev nwE (h : HS) (q : Nat) (nu : Int) (dv ac : Option Nat) (ki cp tm rk : Int) : HS := setI (setI (setI (setI (setP (setP (setI (newO h 2 q) 10 q nu) 11 q dv) 12 q ac) 13 q ki) 14 q cp) 15 q tm) 16 q rk
theorem nwE_ex {h : HS} {q : Nat} {nu : Int} {dv ac : Option Nat} {ki cp tm rk : Int} (hq : kD h q = 0) : Ex h (nwE h q nu dv ac ki cp tm rk) := (((((((Ex.newO hq).sI hq).sP hq).sP hq).sI hq).sI hq).sI hq).sI hq
theorem nwE_at (h : HS) (q : Nat) (nu : Int) (dv ac : Option Nat) (ki cp tm rk : Int) : kD (nwE h q nu dv ac ki cp tm rk) q = 2 ∧ fI (nwE h q nu dv ac ki cp tm rk) 10 q = nu ∧ fP (nwE h q nu dv ac ki cp tm rk) 11 q = dv ∧ fP (nwE h q nu dv ac ki cp tm rk) 12 q = ac ∧ fI (nwE h q nu dv ac ki cp tm rk) 13 q = ki ∧ fI (nwE h q nu dv ac ki cp tm rk) 14 q = cp ∧ fI (nwE h q nu dv ac ki cp tm rk) 15 q = tm ∧ fI (nwE h q nu dv ac ki cp tm rk) 16 q = rk ∧ fI (nwE h q nu dv ac ki cp tm rk) 17 q = 0 := by
  refine ⟨if_pos rfl, ?_⟩
  simp [nwE, fI_setI, fP_setI, fI_setP, fP_setP, fI_newO, fP_newO]
def updG (A : AD) (n : Int) (q : Nat) : AD := (cO A, cN A, cM A, cH A, cT A, cW A, nd A, lc A, ev A, fun g => if g = n then q else gp A g)
def updE (A : AD) (n : Int) (q : Nat) : AD := (cO A, cN A, cM A, cH A, cT A, cW A, nd A, lc A, (fun g => if g = n then q else ev A g), gp A)
theorem gp_updG (A : AD) (n : Int) (q : Nat) (g : Int) : gp (updG A n q) g = if g = n then q else gp A g := rfl
theorem ev_updE (A : AD) (n : Int) (q : Nat) (g : Int) : ev (updE A n q) g = if g = n then q else ev A g := rfl
/-- what group leaves -/
def GrQ (h h' : HS) (A : AD) (M : MS) (p what least days : Int) : Prop := ∃ q, kD h q = 0 ∧ h' = setI (setP (if M 17 0 = 0 then setP (nwG h q (M 17 0) p what least days) 65 (cO A) (some q) else setP (nwG h q (M 17 0) p what least days) 36 (gp A (M 17 0 - 1)) (some q)) 66 (cO A) (some q)) 67 (cO A) (M 17 0 + 1)

set_option maxRecDepth 100000 in
set_option maxHeartbeats 400000 in
theorem k_X6_group {l : Launch} {D : va_G} {cy : CY} (hst : l.stackTraces = false) {h : HS} {A : AD} {M : MS} {p what least days : Int} (s : SP h A M) (v : VO h A) (h67 : fI h 67 (cO A) = M 17 0) (h66 : fP h 66 (cO A) = if M 17 0 = 0 then none else some (gp A (M 17 0 - 1))) (hgk : ∀ g, 0 ≤ g → g < M 17 0 → kD h (gp A g) = 4) (hp : -2147483648 ≤ p ∧ p ≤ 2147483647) (hwhat : -2147483648 ≤ what ∧ what ≤ 2147483647) (hleast : -2147483648 ≤ least ∧ least ≤ 2147483647) (hdays : -2147483648 ≤ days ∧ days ≤ 2147483647) : Ct l D cy yX6_group (Cond.code yX6_group cX6_group 6 (some .int)) 6 82 1 7 (RepH cy) [vr (some (cO A)), vi p, vi what, vi least, vi days] h (fun r h' => (((0 ≤ p ∧ p ≤ 3) ∧ (0 ≤ what ∧ what ≤ 4) ∧ (1 ≤ least ∧ least ≤ 20) ∧ (1 ≤ days ∧ days ≤ 30)) ∧ M 17 0 < 8 ∧ GrQ h h' A M p what least days ∧ r = .ok (some (vi (M 17 0)))) ∨ (((0 ≤ p ∧ p ≤ 3) ∧ (0 ≤ what ∧ what ≤ 4) ∧ (1 ≤ least ∧ least ≤ 20) ∧ (1 ≤ days ∧ days ≤ 30)) ∧ M 17 0 = 8 ∧ h' = h ∧ r = .error "java/lang/IllegalStateException") ∨ (¬ ((0 ≤ p ∧ p ≤ 3) ∧ (0 ≤ what ∧ what ≤ 4) ∧ (1 ≤ least ∧ least ≤ 20) ∧ (1 ≤ days ∧ days ≤ 30)) ∧ h' = h ∧ r = .error "java/lang/IllegalArgumentException")) := by
  refine Ct.of1 (own := RX6) hst (by decide) rfl (Nat.le_of_ble_eq_true rfl) (cat1 (vr_cat _) (cat1 (vi_cat _) (cat1 (vi_cat _) (cat1 (vi_cat _) (cat1 (vi_cat _) (cat0)))))) ?_
  intro φ C hQ hn hR hl hD
  subst hl hD
  obtain ⟨v0, v60, v61, v62, v63, v64, vn, vnl, vnr, vm, vml, vh, vt, vw, vwl⟩ := id v
  have hgn := s.mi.gn
  by_cases hz : M 17 0 = 0
  ·
    refine x_iload_n C dX6_group_0 rfl rfl ?_
    refine x_callS C hR cb_X6_isPurpose u2_11 u2_10 (k_X6_isPurpose (M := M) (A := A) hst (by omega)) rfl (Nat.le_of_ble_eq_true rfl) rfl dX6_group_1 (by decide) (by decide) (fun E x9 h9 => absurd h9.1 (by intro h; cases h)) (fun r9 x9 h9 => ?_)
    obtain ⟨e9, q9⟩ := h9
    cases e9
    subst x9
    refine x_if_eq (tgt := 33) C dX6_group_4 (by decide) (by first | omega | exact bi_rng _) (fun h4 => ?_) (fun h4 => ?_)
    ·
      replace h4 := bi_eq0.mp h4
      refine x_throwS C hQ hR th_IAE (List.mem_of_getElem? (i := 7) rfl) dX6_group_33 dX6_group_36 dX6_group_37 dX6_group_39 dX6_group_42 (by decide) (by decide) (by decide) (by decide) ?_
      exact Or.inr (Or.inr ⟨by omega, rfl, rfl⟩)
    ·
      replace h4 := bi_ne0.mp h4
      refine x_iload_n C dX6_group_7 rfl rfl ?_
      refine x_callS C hR cb_X6_isKind u2_14 u2_13 (k_X6_isKind (M := M) (A := A) hst (by omega)) rfl (Nat.le_of_ble_eq_true rfl) rfl dX6_group_8 (by decide) (by decide) (fun E x9 h9 => absurd h9.1 (by intro h; cases h)) (fun r9 x9 h9 => ?_)
      obtain ⟨e9, q9⟩ := h9
      cases e9
      subst x9
      refine x_if_eq (tgt := 33) C dX6_group_11 (by decide) (by first | omega | exact bi_rng _) (fun h11 => ?_) (fun h11 => ?_)
      ·
        replace h11 := bi_eq0.mp h11
        refine x_throwS C hQ hR th_IAE (List.mem_of_getElem? (i := 7) rfl) dX6_group_33 dX6_group_36 dX6_group_37 dX6_group_39 dX6_group_42 (by decide) (by decide) (by decide) (by decide) ?_
        exact Or.inr (Or.inr ⟨by omega, rfl, rfl⟩)
      ·
        replace h11 := bi_ne0.mp h11
        refine x_iload_n C dX6_group_14 rfl rfl ?_
        refine x_iconst C dX6_group_15 ?_
        refine x_icmp_lt (tgt := 33) C dX6_group_16 (by decide) (by first | omega | exact bi_rng _) (by first | omega | exact bi_rng _) (fun h16 => ?_) (fun h16 => ?_)
        ·
          refine x_throwS C hQ hR th_IAE (List.mem_of_getElem? (i := 7) rfl) dX6_group_33 dX6_group_36 dX6_group_37 dX6_group_39 dX6_group_42 (by decide) (by decide) (by decide) (by decide) ?_
          exact Or.inr (Or.inr ⟨by omega, rfl, rfl⟩)
        ·
          refine x_iload_n C dX6_group_19 rfl rfl ?_
          refine x_bipush C dX6_group_20 (by decide) ?_
          refine x_icmp_gt (tgt := 33) C dX6_group_22 (by decide) (by first | omega | exact bi_rng _) (by first | omega | exact bi_rng _) (fun h22 => ?_) (fun h22 => ?_)
          ·
            refine x_throwS C hQ hR th_IAE (List.mem_of_getElem? (i := 7) rfl) dX6_group_33 dX6_group_36 dX6_group_37 dX6_group_39 dX6_group_42 (by decide) (by decide) (by decide) (by decide) ?_
            exact Or.inr (Or.inr ⟨by omega, rfl, rfl⟩)
          ·
            refine x_iload C dX6_group_25 rfl ?_
            refine x_callS C hR cb_X6_areDays u2_17 u2_16 (k_X6_areDays (M := M) (A := A) hst (by omega)) rfl (Nat.le_of_ble_eq_true rfl) rfl dX6_group_27 (by decide) (by decide) (fun E x9 h9 => absurd h9.1 (by intro h; cases h)) (fun r9 x9 h9 => ?_)
            obtain ⟨e9, q9⟩ := h9
            cases e9
            subst x9
            refine x_if_ne (tgt := 43) C dX6_group_30 (by decide) (by first | omega | exact bi_rng _) (fun h30 => ?_) (fun h30 => ?_)
            ·
              replace h30 := bi_ne0.mp h30
              refine x_aload_n C dX6_group_43 rfl rfl ?_
              refine h_get6 (f := 7) C v0 (by decide) u2_2 rfl rfl dX6_group_44 ?_
              simp only [h67]
              refine x_bipush C dX6_group_47 (by decide) ?_
              refine x_icmp_lt (tgt := 62) C dX6_group_49 (by decide) (by omega) (by omega) (fun h49 => ?_) (fun h49 => ?_)
              ·
                refine h_new3 C hR u2_3 u2_4 u2_5 (by decide) dX6_group_62 (fun q62 hq62 => ?_)
                have vN := (Ex.newO (kd := 4) hq62).vo v
                obtain ⟨vN0, -⟩ := id vN
                have cN7 : fI (newO h 4 q62) 67 (cO A) = M 17 0 := ((Ex.newO (kd := 4) hq62) (cO A) (by omega)).2.2.1 67 |>.trans h67
                refine x_dup C dX6_group_65 (by first | rfl | exact vr_cat _ | exact vi_cat _) ?_
                refine x_aload_n C dX6_group_66 rfl rfl ?_
                refine h_get6 (f := 7) C vN0 (by decide) u2_2 rfl rfl dX6_group_67 ?_
                simp only [cN7]
                refine x_iload_n C dX6_group_70 rfl rfl ?_
                refine x_iload_n C dX6_group_71 rfl rfl ?_
                refine x_iload_n C dX6_group_72 rfl rfl ?_
                refine x_iload C dX6_group_73 rfl ?_
                refine x_callI C hR cb_X3_init u2_20 rfl u2_19 (k_X3_init (A := A) (M := M) hst (h := newO h 4 q62) (a := q62) (if_pos rfl)) rfl (Nat.le_of_ble_eq_true rfl) rfl dX6_group_75 (by decide) (by decide) (fun E x9 h9 => absurd h9 (by first | (intro h; cases h.1) | (rintro ⟨_, h, _⟩; cases h) | (rintro ⟨_, _, h, _⟩; cases h))) (fun r9 x9 h9 => ?_)
                obtain ⟨e9, q9⟩ := h9
                cases e9
                have q9 : x9 = nwG h q62 (M 17 0) p what least days := q9
                have hex : Ex h x9 := by rw [q9]; exact nwG_ex hq62
                obtain ⟨ga, g30, -⟩ := nwG_at h q62 (M 17 0) p what least days
                rw [← q9] at ga g30
                obtain ⟨b0, -⟩ := hex.vo v
                have cx := hex (cO A) (by omega)
                have c66 := (cx.2.2.2.1 66).trans h66
                have c67 := (cx.2.2.1 67).trans h67
                rw [if_pos hz] at c66
                refine x_astore C dX6_group_78 (by rw [hn]; exact Nat.le_of_ble_eq_true rfl) ?_
                refine x_aload_n C dX6_group_80 rfl rfl ?_
                refine h_get6 (f := 6) C b0 (by decide) u2_6 rfl rfl dX6_group_81 ?_
                simp only [c66]
                refine x_ifnonnull (tgt := 96) C dX6_group_84 (by decide) (fun a84 h84 => ?_) (fun h84 => ?_)
                ·
                  cases h84
                ·
                  refine x_aload_n C dX6_group_87 rfl rfl ?_
                  refine x_aload C dX6_group_88 rfl ?_
                  refine h_put6 (f := 5) (h' := setP _ 65 _ _) C b0 (by decide) u2_7 rfl rfl (tyX6_ok 5 (by decide)) (fit_vr _) (cs6_5 b0) (fun _ => rfl) (fun _ hx => cell_setP_ne hx) dX6_group_90 ?_
                  refine x_goto (tgt := 105) C dX6_group_93 (by decide) ?_
                  refine x_aload_n C dX6_group_105 rfl rfl ?_
                  refine x_aload C dX6_group_106 rfl ?_
                  refine h_put6 (f := 6) (h' := setP _ 66 _ _) C b0 (by decide) u2_6 rfl rfl (tyX6_ok 6 (by decide)) (fit_vr _) (cs6_6 b0) (fun _ => rfl) (fun _ hx => cell_setP_ne hx) dX6_group_108 ?_
                  refine x_aload_n C dX6_group_111 rfl rfl ?_
                  refine x_dup C dX6_group_112 (by first | rfl | exact vr_cat _ | exact vi_cat _) ?_
                  refine h_get6 (f := 7) C b0 (by decide) u2_2 rfl rfl dX6_group_113 ?_
                  change X φ _ _ _ _ _ (vi (fI x9 67 (cO A)) :: _)
                  simp only [c67]
                  refine x_iconst C dX6_group_116 ?_
                  refine x_iadd C dX6_group_117 ?_
                  refine h_put6 (f := 7) (h' := setI _ 67 _ _) C b0 (by decide) u2_2 rfl rfl (tyX6_ok 7 (by decide)) (fit_vi _) (cs6_7 b0) (fun _ => rfl) (fun _ hx => cell_setI_ne hx) dX6_group_118 ?_
                  refine x_aload C dX6_group_121 rfl ?_
                  refine h_get3 (f := 0) C ga (by decide) u2_9 rfl rfl dX6_group_123 ?_
                  change X φ _ _ _ _ _ (vi (fI x9 30 q62) :: _)
                  simp only [g30]
                  refine x_iret (ty := .int) C hQ dX6_group_126 rfl rfl (by decide) (by decide) ?_
                  exact Or.inl ⟨by omega, by omega, ⟨q62, hq62, by rw [if_pos hz, ← q9]⟩, rfl⟩
              ·
                refine x_throwS C hQ hR th_ISE (List.mem_of_getElem? (i := 8) rfl) dX6_group_52 dX6_group_55 dX6_group_56 dX6_group_58 dX6_group_61 (by decide) (by decide) (by decide) (by decide) ?_
                exact Or.inr (Or.inl ⟨by omega, by omega, rfl, rfl⟩)
            ·
              replace h30 := bi_eq0.mp h30
              refine x_throwS C hQ hR th_IAE (List.mem_of_getElem? (i := 7) rfl) dX6_group_33 dX6_group_36 dX6_group_37 dX6_group_39 dX6_group_42 (by decide) (by decide) (by decide) (by decide) ?_
              exact Or.inr (Or.inr ⟨by omega, rfl, rfl⟩)
  ·
    refine x_iload_n C dX6_group_0 rfl rfl ?_
    refine x_callS C hR cb_X6_isPurpose u2_11 u2_10 (k_X6_isPurpose (M := M) (A := A) hst (by omega)) rfl (Nat.le_of_ble_eq_true rfl) rfl dX6_group_1 (by decide) (by decide) (fun E x9 h9 => absurd h9.1 (by intro h; cases h)) (fun r9 x9 h9 => ?_)
    obtain ⟨e9, q9⟩ := h9
    cases e9
    subst x9
    refine x_if_eq (tgt := 33) C dX6_group_4 (by decide) (by first | omega | exact bi_rng _) (fun h4 => ?_) (fun h4 => ?_)
    ·
      replace h4 := bi_eq0.mp h4
      refine x_throwS C hQ hR th_IAE (List.mem_of_getElem? (i := 7) rfl) dX6_group_33 dX6_group_36 dX6_group_37 dX6_group_39 dX6_group_42 (by decide) (by decide) (by decide) (by decide) ?_
      exact Or.inr (Or.inr ⟨by omega, rfl, rfl⟩)
    ·
      replace h4 := bi_ne0.mp h4
      refine x_iload_n C dX6_group_7 rfl rfl ?_
      refine x_callS C hR cb_X6_isKind u2_14 u2_13 (k_X6_isKind (M := M) (A := A) hst (by omega)) rfl (Nat.le_of_ble_eq_true rfl) rfl dX6_group_8 (by decide) (by decide) (fun E x9 h9 => absurd h9.1 (by intro h; cases h)) (fun r9 x9 h9 => ?_)
      obtain ⟨e9, q9⟩ := h9
      cases e9
      subst x9
      refine x_if_eq (tgt := 33) C dX6_group_11 (by decide) (by first | omega | exact bi_rng _) (fun h11 => ?_) (fun h11 => ?_)
      ·
        replace h11 := bi_eq0.mp h11
        refine x_throwS C hQ hR th_IAE (List.mem_of_getElem? (i := 7) rfl) dX6_group_33 dX6_group_36 dX6_group_37 dX6_group_39 dX6_group_42 (by decide) (by decide) (by decide) (by decide) ?_
        exact Or.inr (Or.inr ⟨by omega, rfl, rfl⟩)
      ·
        replace h11 := bi_ne0.mp h11
        refine x_iload_n C dX6_group_14 rfl rfl ?_
        refine x_iconst C dX6_group_15 ?_
        refine x_icmp_lt (tgt := 33) C dX6_group_16 (by decide) (by first | omega | exact bi_rng _) (by first | omega | exact bi_rng _) (fun h16 => ?_) (fun h16 => ?_)
        ·
          refine x_throwS C hQ hR th_IAE (List.mem_of_getElem? (i := 7) rfl) dX6_group_33 dX6_group_36 dX6_group_37 dX6_group_39 dX6_group_42 (by decide) (by decide) (by decide) (by decide) ?_
          exact Or.inr (Or.inr ⟨by omega, rfl, rfl⟩)
        ·
          refine x_iload_n C dX6_group_19 rfl rfl ?_
          refine x_bipush C dX6_group_20 (by decide) ?_
          refine x_icmp_gt (tgt := 33) C dX6_group_22 (by decide) (by first | omega | exact bi_rng _) (by first | omega | exact bi_rng _) (fun h22 => ?_) (fun h22 => ?_)
          ·
            refine x_throwS C hQ hR th_IAE (List.mem_of_getElem? (i := 7) rfl) dX6_group_33 dX6_group_36 dX6_group_37 dX6_group_39 dX6_group_42 (by decide) (by decide) (by decide) (by decide) ?_
            exact Or.inr (Or.inr ⟨by omega, rfl, rfl⟩)
          ·
            refine x_iload C dX6_group_25 rfl ?_
            refine x_callS C hR cb_X6_areDays u2_17 u2_16 (k_X6_areDays (M := M) (A := A) hst (by omega)) rfl (Nat.le_of_ble_eq_true rfl) rfl dX6_group_27 (by decide) (by decide) (fun E x9 h9 => absurd h9.1 (by intro h; cases h)) (fun r9 x9 h9 => ?_)
            obtain ⟨e9, q9⟩ := h9
            cases e9
            subst x9
            refine x_if_ne (tgt := 43) C dX6_group_30 (by decide) (by first | omega | exact bi_rng _) (fun h30 => ?_) (fun h30 => ?_)
            ·
              replace h30 := bi_ne0.mp h30
              refine x_aload_n C dX6_group_43 rfl rfl ?_
              refine h_get6 (f := 7) C v0 (by decide) u2_2 rfl rfl dX6_group_44 ?_
              simp only [h67]
              refine x_bipush C dX6_group_47 (by decide) ?_
              refine x_icmp_lt (tgt := 62) C dX6_group_49 (by decide) (by omega) (by omega) (fun h49 => ?_) (fun h49 => ?_)
              ·
                refine h_new3 C hR u2_3 u2_4 u2_5 (by decide) dX6_group_62 (fun q62 hq62 => ?_)
                have vN := (Ex.newO (kd := 4) hq62).vo v
                obtain ⟨vN0, -⟩ := id vN
                have cN7 : fI (newO h 4 q62) 67 (cO A) = M 17 0 := ((Ex.newO (kd := 4) hq62) (cO A) (by omega)).2.2.1 67 |>.trans h67
                refine x_dup C dX6_group_65 (by first | rfl | exact vr_cat _ | exact vi_cat _) ?_
                refine x_aload_n C dX6_group_66 rfl rfl ?_
                refine h_get6 (f := 7) C vN0 (by decide) u2_2 rfl rfl dX6_group_67 ?_
                simp only [cN7]
                refine x_iload_n C dX6_group_70 rfl rfl ?_
                refine x_iload_n C dX6_group_71 rfl rfl ?_
                refine x_iload_n C dX6_group_72 rfl rfl ?_
                refine x_iload C dX6_group_73 rfl ?_
                refine x_callI C hR cb_X3_init u2_20 rfl u2_19 (k_X3_init (A := A) (M := M) hst (h := newO h 4 q62) (a := q62) (if_pos rfl)) rfl (Nat.le_of_ble_eq_true rfl) rfl dX6_group_75 (by decide) (by decide) (fun E x9 h9 => absurd h9 (by first | (intro h; cases h.1) | (rintro ⟨_, h, _⟩; cases h) | (rintro ⟨_, _, h, _⟩; cases h))) (fun r9 x9 h9 => ?_)
                obtain ⟨e9, q9⟩ := h9
                cases e9
                have q9 : x9 = nwG h q62 (M 17 0) p what least days := q9
                have hex : Ex h x9 := by rw [q9]; exact nwG_ex hq62
                obtain ⟨ga, g30, -⟩ := nwG_at h q62 (M 17 0) p what least days
                rw [← q9] at ga g30
                obtain ⟨b0, -⟩ := hex.vo v
                have cx := hex (cO A) (by omega)
                have c66 := (cx.2.2.2.1 66).trans h66
                have c67 := (cx.2.2.1 67).trans h67
                rw [if_neg hz] at c66
                have gl9 : kD x9 (gp A (M 17 0 - 1)) = 4 := (hex _ (by rw [hgk _ (by omega) (by omega)]; decide)).1.trans (hgk _ (by omega) (by omega))
                refine x_astore C dX6_group_78 (by rw [hn]; exact Nat.le_of_ble_eq_true rfl) ?_
                refine x_aload_n C dX6_group_80 rfl rfl ?_
                refine h_get6 (f := 6) C b0 (by decide) u2_6 rfl rfl dX6_group_81 ?_
                simp only [c66]
                refine x_ifnonnull (tgt := 96) C dX6_group_84 (by decide) (fun a84 h84 => ?_) (fun h84 => ?_)
                ·
                  refine x_aload_n C dX6_group_96 rfl rfl ?_
                  refine h_get6 (f := 6) C b0 (by decide) u2_6 rfl rfl dX6_group_97 ?_
                  simp only [c66]
                  refine x_aload C dX6_group_100 rfl ?_
                  refine h_put3 (f := 6) (h' := setP _ 36 _ _) C gl9 (by decide) u2_8 rfl rfl (tyX3_ok 6 (by decide)) (fit_vr _) (cs3_6 gl9) (fun _ => rfl) (fun _ hx => cell_setP_ne hx) dX6_group_102 ?_
                  refine x_aload_n C dX6_group_105 rfl rfl ?_
                  refine x_aload C dX6_group_106 rfl ?_
                  refine h_put6 (f := 6) (h' := setP _ 66 _ _) C b0 (by decide) u2_6 rfl rfl (tyX6_ok 6 (by decide)) (fit_vr _) (cs6_6 b0) (fun _ => rfl) (fun _ hx => cell_setP_ne hx) dX6_group_108 ?_
                  refine x_aload_n C dX6_group_111 rfl rfl ?_
                  refine x_dup C dX6_group_112 (by first | rfl | exact vr_cat _ | exact vi_cat _) ?_
                  refine h_get6 (f := 7) C b0 (by decide) u2_2 rfl rfl dX6_group_113 ?_
                  change X φ _ _ _ _ _ (vi (fI x9 67 (cO A)) :: _)
                  simp only [c67]
                  refine x_iconst C dX6_group_116 ?_
                  refine x_iadd C dX6_group_117 ?_
                  refine h_put6 (f := 7) (h' := setI _ 67 _ _) C b0 (by decide) u2_2 rfl rfl (tyX6_ok 7 (by decide)) (fit_vi _) (cs6_7 b0) (fun _ => rfl) (fun _ hx => cell_setI_ne hx) dX6_group_118 ?_
                  refine x_aload C dX6_group_121 rfl ?_
                  refine h_get3 (f := 0) C ga (by decide) u2_9 rfl rfl dX6_group_123 ?_
                  change X φ _ _ _ _ _ (vi (fI x9 30 q62) :: _)
                  simp only [g30]
                  refine x_iret (ty := .int) C hQ dX6_group_126 rfl rfl (by decide) (by decide) ?_
                  exact Or.inl ⟨by omega, by omega, ⟨q62, hq62, by rw [if_neg hz, ← q9]⟩, rfl⟩
                ·
                  cases h84
              ·
                refine x_throwS C hQ hR th_ISE (List.mem_of_getElem? (i := 8) rfl) dX6_group_52 dX6_group_55 dX6_group_56 dX6_group_58 dX6_group_61 (by decide) (by decide) (by decide) (by decide) ?_
                exact Or.inr (Or.inl ⟨by omega, by omega, rfl, rfl⟩)
            ·
              replace h30 := bi_eq0.mp h30
              refine x_throwS C hQ hR th_IAE (List.mem_of_getElem? (i := 7) rfl) dX6_group_33 dX6_group_36 dX6_group_37 dX6_group_39 dX6_group_42 (by decide) (by decide) (by decide) (by decide) ?_
              exact Or.inr (Or.inr ⟨by omega, rfl, rfl⟩)

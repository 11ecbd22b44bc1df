set_option maxRecDepth 100000 in
set_option maxHeartbeats 400000 in
theorem k_X6_countFor {l : Launch} {D : va_G} {cy : CY} (hst : l.stackTraces = false) {h : HS} {A : AD} {M : MS} {lz : List Int} {f : Int → Int} {ow : Nat → Int} {k p kind mi days : Int} (s : SP h A M) (v : VO h A) (hf : LW h A f) (hC : ChL h A lz) (hl : ∀ e ∈ lz, 0 ≤ e ∧ e < M 2 0) (hCN : CNs h A M ow) (hk : 0 ≤ k ∧ k < 20) (hp : 0 ≤ p ∧ p < 4) (hki : 0 ≤ kind ∧ kind ≤ 4) (hmi : 0 ≤ mi ∧ mi ≤ 100000) (hda : 1 ≤ days ∧ days ≤ 30) : Ct l D cy yX6_countFor (Cond.code yX6_countFor cX6_countFor 8 (some .int)) 3 69 0 0 (RepH cy) [vr (some (cO A)), vr (some (nd A k)), vi p, vi kind, vi mi, vi days] h (fun r h' => r = .ok (some (vi (cfN M f k p kind mi days lz))) ∧ h' = h) := by
  refine Ct.of1 (own := RX6) hst (by decide) rfl (Nat.le_of_ble_eq_true rfl) (cat1 (vr_cat _) (cat1 (vr_cat _) (cat1 (vi_cat _) (cat1 (vi_cat _) (cat1 (vi_cat _) (cat1 (vi_cat _) (cat0))))))) ?_
  intro φ C hQ hn hR hl hD
  subst hl hD
  obtain ⟨v0, v60, v61, v62, v63, v64, vn, vnl, vnr, vm, vml, vh, vt, vw, vwl⟩ := id v
  have loop : ∀ (t : List Int) (u : Option Nat) (c : Int), LG h A u t none → (∀ e ∈ t, 0 ≤ e ∧ e < M 2 0) → c + cfN M f k p kind mi days t = cfN M f k p kind mi days lz → X φ (RepH cy h) 0 0 12 [(0, vr (some (cO A))), (1, vr (some (nd A k))), (2, vi p), (3, vi kind), (4, vi mi), (5, vi days), (6, vi c), (7, vr u)] [] := by
    intro t
    induction t with
    | nil =>
      intro u c hu ht hcc
      have hu : u = none := hu
      subst hu
      refine x_aload C dX6_countFor_12 rfl ?_
      refine x_ifnull (tgt := 53) C dX6_countFor_14 (by decide) (fun h14 => ?_) (fun a14 h14 => ?_)
      ·
        refine x_iload C dX6_countFor_53 rfl ?_
        refine x_iret (ty := .int) C hQ dX6_countFor_55 rfl rfl (by decide) (by decide) ?_
        exact ⟨by rw [show c = cfN M f k p kind mi days lz from (Int.add_zero c).symm.trans hcc], rfl⟩
      ·
        cases h14
    | cons x t ih =>
      intro u c hu ht hcc
      obtain ⟨rfl, hu2⟩ := hu
      have hxl := ht x List.mem_cons_self
      have exk : kD h (ev A x) = 2 := (s.ve x hxl.1 hxl.2).1
      have hcn := cnt_hc s.mi hxl hp
      have hr := rowOf_in s.mi hxl.1 hxl.2 (p := p) (by omega)
      have hrc := s.mi.ch _ hr.1 hr.2
      have hk9 : 0 ≤ (if M 5 x = -1 then 10 + M 4 x else M 5 x) ∧ (if M 5 x = -1 then 10 + M 4 x else M 5 x) < 20 := by
        have h9 := s.mi.ev x hxl.1 hxl.2
        obtain ⟨-, h4, h5, -⟩ := h9
        split <;> omega
      have hcc : c + ((if cfP M f k p kind mi days x then 1 else 0) + cfN M f k p kind mi days t) = cfN M f k p kind mi days lz := hcc
      simp only [rowOf] at hr hrc hcn
      refine x_aload C dX6_countFor_12 rfl ?_
      refine x_ifnull (tgt := 53) C dX6_countFor_14 (by decide) (fun h14 => ?_) (fun a14 h14 => ?_)
      ·
        cases h14
      ·
        refine x_aload C dX6_countFor_17 rfl ?_
        refine x_aload_n C dX6_countFor_19 rfl rfl ?_
        refine x_callV C hR cb_X1_isOf cv_X1_isOf u11_2 (k_X1_isOf hst s hf hxl hk) (h_recv exk (by decide)) ⟨_, _, rfl⟩ rfl (Nat.le_of_ble_eq_true rfl) rfl dX6_countFor_20 (by decide) (by decide) (fun E x9 h9 => absurd h9.1 (by intro h; cases h)) (fun r9 x9 h9 => ?_)
        obtain ⟨e9, q9⟩ := h9
        cases e9
        subst x9
        refine x_if_eq (tgt := 43) C dX6_countFor_23 (by decide) (by first | omega | exact bi_rng _) (fun h23 => ?_) (fun h23 => ?_)
        ·
          replace h23 := bi_eq0.mp h23
          refine x_aload C dX6_countFor_43 rfl ?_
          refine h_get1 (f := 8) C exk (by decide) u8_3 rfl rfl dX6_countFor_45 ?_
          refine x_astore C dX6_countFor_48 (by rw [hn]; exact Nat.le_of_ble_eq_true rfl) ?_
          refine x_goto (tgt := 12) C dX6_countFor_50 (by decide) ?_
          first
          | (have hq : cfP M f k p kind mi days x := ⟨h23, h37.1, h37.2.1, h37.2.2.1, hcn.mpr h37.2.2.2⟩
             rw [if_pos hq] at hcc
             exact X.to (ih _ (c + 1) hu2 (fun e he => ht e (List.mem_cons_of_mem _ he)) (by omega)) (lsc rfl (lsc rfl (lsc rfl (lsc rfl (lsc rfl (lsc rfl (lsc rfl (lsc rfl (lsn))))))))))
          | (have hq : ¬ cfP M f k p kind mi days x := fun q => h37 ⟨q.2.1, q.2.2.1, q.2.2.2.1, hcn.mp q.2.2.2.2⟩
             rw [if_neg hq] at hcc
             exact X.to (ih _ c hu2 (fun e he => ht e (List.mem_cons_of_mem _ he)) (by omega)) (lsc rfl (lsc rfl (lsc rfl (lsc rfl (lsc rfl (lsc rfl (lsc rfl (lsc rfl (lsn))))))))))
          | (have hq : ¬ cfP M f k p kind mi days x := fun q => h23 q.1
             rw [if_neg hq] at hcc
             exact X.to (ih _ c hu2 (fun e he => ht e (List.mem_cons_of_mem _ he)) (by omega)) (lsc rfl (lsc rfl (lsc rfl (lsc rfl (lsc rfl (lsc rfl (lsc rfl (lsc rfl (lsn))))))))))
        ·
          replace h23 := bi_ne0.mp h23
          refine x_aload C dX6_countFor_26 rfl ?_
          refine x_iload_n C dX6_countFor_28 rfl rfl ?_
          refine x_iload_n C dX6_countFor_29 rfl rfl ?_
          refine x_iload C dX6_countFor_30 rfl ?_
          refine x_iload C dX6_countFor_32 rfl ?_
          refine x_callV C hR cb_X1_countsFor cv_X1_countsFor u15_8 (k_X1_countsFor hst s hxl rfl (by omega) (hCN _ p hk9.1 hk9.2 (by omega) (by omega)) (fun y hy => slC_nn s.mi _ hr.1 hr.2 _ (by omega) y hy) (by omega) (by omega) (by omega)) (h_recv exk (by decide)) ⟨_, _, rfl⟩ rfl (Nat.le_of_ble_eq_true rfl) rfl dX6_countFor_34 (by decide) (by decide) (fun E x9 h9 => absurd h9.1 (by intro h; cases h)) (fun r9 x9 h9 => ?_)
          obtain ⟨e9, q9⟩ := h9
          cases e9
          subst x9
          refine x_if_eq (tgt := 43) C dX6_countFor_37 (by decide) (by first | omega | exact bi_rng _) (fun h37 => ?_) (fun h37 => ?_)
          ·
            replace h37 := bi_eq0.mp h37
            refine x_aload C dX6_countFor_43 rfl ?_
            refine h_get1 (f := 8) C exk (by decide) u8_3 rfl rfl dX6_countFor_45 ?_
            refine x_astore C dX6_countFor_48 (by rw [hn]; exact Nat.le_of_ble_eq_true rfl) ?_
            refine x_goto (tgt := 12) C dX6_countFor_50 (by decide) ?_
            first
            | (have hq : cfP M f k p kind mi days x := ⟨h23, h37.1, h37.2.1, h37.2.2.1, hcn.mpr h37.2.2.2⟩
               rw [if_pos hq] at hcc
               exact X.to (ih _ (c + 1) hu2 (fun e he => ht e (List.mem_cons_of_mem _ he)) (by omega)) (lsc rfl (lsc rfl (lsc rfl (lsc rfl (lsc rfl (lsc rfl (lsc rfl (lsc rfl (lsn))))))))))
            | (have hq : ¬ cfP M f k p kind mi days x := fun q => h37 ⟨q.2.1, q.2.2.1, q.2.2.2.1, hcn.mp q.2.2.2.2⟩
               rw [if_neg hq] at hcc
               exact X.to (ih _ c hu2 (fun e he => ht e (List.mem_cons_of_mem _ he)) (by omega)) (lsc rfl (lsc rfl (lsc rfl (lsc rfl (lsc rfl (lsc rfl (lsc rfl (lsc rfl (lsn))))))))))
            | (have hq : ¬ cfP M f k p kind mi days x := fun q => h23 q.1
               rw [if_neg hq] at hcc
               exact X.to (ih _ c hu2 (fun e he => ht e (List.mem_cons_of_mem _ he)) (by omega)) (lsc rfl (lsc rfl (lsc rfl (lsc rfl (lsc rfl (lsc rfl (lsc rfl (lsc rfl (lsn))))))))))
          ·
            replace h37 := bi_ne0.mp h37
            refine x_iinc C dX6_countFor_40 (by rw [hn]; exact Nat.le_of_ble_eq_true rfl) rfl ?_
            refine x_aload C dX6_countFor_43 rfl ?_
            refine h_get1 (f := 8) C exk (by decide) u8_3 rfl rfl dX6_countFor_45 ?_
            refine x_astore C dX6_countFor_48 (by rw [hn]; exact Nat.le_of_ble_eq_true rfl) ?_
            refine x_goto (tgt := 12) C dX6_countFor_50 (by decide) ?_
            first
            | (have hq : cfP M f k p kind mi days x := ⟨h23, h37.1, h37.2.1, h37.2.2.1, hcn.mpr h37.2.2.2⟩
               rw [if_pos hq] at hcc
               exact X.to (ih _ (c + 1) hu2 (fun e he => ht e (List.mem_cons_of_mem _ he)) (by omega)) (lsc rfl (lsc rfl (lsc rfl (lsc rfl (lsc rfl (lsc rfl (lsc rfl (lsc rfl (lsn))))))))))
            | (have hq : ¬ cfP M f k p kind mi days x := fun q => h37 ⟨q.2.1, q.2.2.1, q.2.2.2.1, hcn.mp q.2.2.2.2⟩
               rw [if_neg hq] at hcc
               exact X.to (ih _ c hu2 (fun e he => ht e (List.mem_cons_of_mem _ he)) (by omega)) (lsc rfl (lsc rfl (lsc rfl (lsc rfl (lsc rfl (lsc rfl (lsc rfl (lsc rfl (lsn))))))))))
            | (have hq : ¬ cfP M f k p kind mi days x := fun q => h23 q.1
               rw [if_neg hq] at hcc
               exact X.to (ih _ c hu2 (fun e he => ht e (List.mem_cons_of_mem _ he)) (by omega)) (lsc rfl (lsc rfl (lsc rfl (lsc rfl (lsc rfl (lsc rfl (lsc rfl (lsc rfl (lsn))))))))))
  refine x_iconst C dX6_countFor_0 ?_
  refine x_istore C dX6_countFor_1 (by rw [hn]; exact Nat.le_of_ble_eq_true rfl) ?_
  refine x_aload_n C dX6_countFor_3 rfl rfl ?_
  refine h_get6 (f := 2) C v0 (by decide) u0_22 rfl rfl dX6_countFor_4 ?_
  try simp only [v60, v61, v62, v63, v64]
  refine h_get2 (f := 0) C vh (by decide) u8_1 rfl rfl dX6_countFor_7 ?_
  try simp only [v60, v61, v62, v63, v64]
  refine x_astore C dX6_countFor_10 (by rw [hn]; exact Nat.le_of_ble_eq_true rfl) ?_
  exact X.to (loop lz _ 0 hC.1 hl (Int.zero_add _)) (lsc rfl (lsc rfl (lsc rfl (lsc rfl (lsc rfl (lsc rfl (lsc rfl (lsc rfl (lsn)))))))))

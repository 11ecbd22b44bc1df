/-! consent
-/

set_option maxRecDepth 100000 in
set_option maxHeartbeats 400000 in
theorem k_X4_addChange {l : Launch} {D : va_G} {cy : CY} (hst : l.stackTraces = false) {h : HS} {A : AD} {M : MS} {k p fr is : Int} {ow : Nat → Int} {cl : List (Int × Int)} (s : SP h A M) (hk : 0 ≤ k ∧ k < 20) (hp : 0 ≤ p ∧ p < 4) (his : is = 0 ∨ is = 1) (hC : CLs h ow (4 * k + p) (aR h (lc A k) p) cl) (hcl9 : ∀ y ∈ cl, 0 ≤ y.1 ∧ y.1 ≤ 100000) (hfr : -2147483648 ≤ fr ∧ fr ≤ 2147483647) : Ct l D cy yX4_addChange (Cond.code yX4_addChange cX4_addChange 7 none) 2 44 1 3 (RepH cy) [vr (some (nd A k)), vi p, vi fr, vi is] h (fun r h' => r = .ok none ∧ AdQ h h' A ow k p fr is cl) := by
  refine Ct.of1 (own := RX4) hst (by decide) rfl (Nat.le_of_ble_eq_true rfl) (cat1 (vr_cat _) (cat1 (vi_cat _) (cat1 (vi_cat _) (cat1 (vi_cat _) (cat0))))) ?_
  intro φ C hQ hn hR hl hD
  subst hl hD
  obtain ⟨n0, n40, n41, nk, nl⟩ := s.no k hk.1 hk.2
  have EX : ∀ (as1 as2 : List Nat) (l1 l2 : List (Int × Int)) (e la : Option Nat), CAd h (aR h (lc A k) p) as1 e → CAd h e as2 none → CDt h ow (4 * k + p) as1 l1 → CDt h ow (4 * k + p) as2 l2 → cl = l1 ++ l2 → (∀ y ∈ l1, fr < y.1) → ((as1 = [] ∧ la = none) ∨ ∃ a0 b, as1 = a0 ++ [b] ∧ la = some b) → (∀ y, l2.head? = some y → ¬ fr < y.1) → X φ (RepH cy h) 0 0 46 [(0, vr (some (nd A k))), (1, vi p), (2, vi fr), (3, vi is), (4, vr la), (5, vr e)] [] := by
    intro as1 as2 l1 l2 e la h1 h2 d1 d2 hcl hlt hla hh
    rcases hla with ⟨rfl, rfl⟩ | ⟨a0, b, rfl, rfl⟩
    · have hl1 : l1 = [] := by
        cases l1 with
        | nil => rfl
        | cons v t => exact d1.elim
      subst hl1
      rw [List.nil_append] at hcl
      refine h_new0 C hR u1_10 u10_6 u10_7 (by decide) dX4_addChange_46 (fun q46 hq46 => ?_)
      refine x_dup C dX4_addChange_49 (by first | rfl | exact vr_cat _ | exact vi_cat _) ?_
      refine x_iload_n C dX4_addChange_50 rfl rfl ?_
      refine x_iload_n C dX4_addChange_51 rfl rfl ?_
      refine x_aload C dX4_addChange_52 rfl ?_
      refine x_callI C hR cb_X0_init u10_9 rfl u10_8 (k_X0_init (A := A) (M := M) hst (h := newO h 1 q46) (a := q46) (if_pos rfl) his) rfl (Nat.le_of_ble_eq_true rfl) rfl dX4_addChange_54 (by decide) (by decide) (fun E x9 h9 => absurd h9 (by first | (intro h; cases h.1) | (rintro ⟨_, h, _⟩; cases h) | (rintro ⟨_, _, h, _⟩; cases h))) (fun r9 x9 h9 => ?_)
      obtain ⟨e9, q9⟩ := h9
      cases e9
      subst x9
      have hex : Ex h (nwC h q46 fr is e) := nwC_ex hq46
      have n9 := hex (nd A k) (by omega)
      have l9 := hex (lc A k) (by omega)
      have n90 : kD (nwC h q46 fr is e) (nd A k) = 5 := n9.1.trans n0
      have n91 : fP (nwC h q46 fr is e) 41 (nd A k) = some (lc A k) := (n9.2.2.2.1 41).trans n41
      have l90 : kD (nwC h q46 fr is e) (lc A k) = 10 := l9.1.trans nk
      have l91 : ln (nwC h q46 fr is e) (lc A k) = 4 := l9.2.1.trans nl
      refine x_astore C dX4_addChange_57 (by rw [hn]; exact Nat.le_of_ble_eq_true rfl) ?_
      refine x_aload C dX4_addChange_59 rfl ?_
      refine x_ifnonnull (tgt := 75) C dX4_addChange_61 (by decide) (fun a61 h61 => ?_) (fun h61 => ?_)
      ·
        cases h61
      ·
        refine x_aload_n C dX4_addChange_64 rfl rfl ?_
        refine h_get4 (f := 1) C n90 (by decide) u1_11 rfl rfl dX4_addChange_65 ?_
        simp only [n91]
        refine x_iload_n C dX4_addChange_68 rfl rfl ?_
        refine x_aload C dX4_addChange_69 rfl ?_
        refine h_aastC C l90 (by rw [l91]; omega) (by rw [l91]; omega) (fun v hv => by cases hv; exact (nwC_at h q46 fr is e).1) dX4_addChange_71 ?_
        refine x_goto (tgt := 82) C dX4_addChange_72 (by decide) ?_
        refine x_vret C hQ dX4_addChange_82 rfl (by decide) (by decide) ?_
        exact ⟨rfl, by rw [hcl]; exact AdQ.mk1 hq46 h1 h2 d2 hh⟩
    ·
      refine h_new0 C hR u1_10 u10_6 u10_7 (by decide) dX4_addChange_46 (fun q46 hq46 => ?_)
      refine x_dup C dX4_addChange_49 (by first | rfl | exact vr_cat _ | exact vi_cat _) ?_
      refine x_iload_n C dX4_addChange_50 rfl rfl ?_
      refine x_iload_n C dX4_addChange_51 rfl rfl ?_
      refine x_aload C dX4_addChange_52 rfl ?_
      refine x_callI C hR cb_X0_init u10_9 rfl u10_8 (k_X0_init (A := A) (M := M) hst (h := newO h 1 q46) (a := q46) (if_pos rfl) his) rfl (Nat.le_of_ble_eq_true rfl) rfl dX4_addChange_54 (by decide) (by decide) (fun E x9 h9 => absurd h9 (by first | (intro h; cases h.1) | (rintro ⟨_, h, _⟩; cases h) | (rintro ⟨_, _, h, _⟩; cases h))) (fun r9 x9 h9 => ?_)
      obtain ⟨e9, q9⟩ := h9
      cases e9
      subst x9
      have hex : Ex h (nwC h q46 fr is e) := nwC_ex hq46
      have n9 := hex (nd A k) (by omega)
      have l9 := hex (lc A k) (by omega)
      have n90 : kD (nwC h q46 fr is e) (nd A k) = 5 := n9.1.trans n0
      have n91 : fP (nwC h q46 fr is e) 41 (nd A k) = some (lc A k) := (n9.2.2.2.1 41).trans n41
      have l90 : kD (nwC h q46 fr is e) (lc A k) = 10 := l9.1.trans nk
      have l91 : ln (nwC h q46 fr is e) (lc A k) = 4 := l9.2.1.trans nl
      refine x_astore C dX4_addChange_57 (by rw [hn]; exact Nat.le_of_ble_eq_true rfl) ?_
      refine x_aload C dX4_addChange_59 rfl ?_
      refine x_ifnonnull (tgt := 75) C dX4_addChange_61 (by decide) (fun a61 h61 => ?_) (fun h61 => ?_)
      ·
        refine x_aload C dX4_addChange_75 rfl ?_
        refine x_aload C dX4_addChange_77 rfl ?_
        have b90 : kD (nwC h q46 fr is e) b = 1 := (hex b (by rw [(CDt_mem d1 b (by simp)).1]; decide)).1.trans (CDt_mem d1 b (by simp)).1
        refine h_put0 (f := 2) (h' := setP _ 2 _ _) C b90 (by decide) u9_20 rfl rfl (tyX0_ok 2 (by decide)) (fit_vr _) (cs0_2 b90) (fun _ => rfl) (fun _ hx => cell_setP_ne hx) dX4_addChange_79 ?_
        refine x_vret C hQ dX4_addChange_82 rfl (by decide) (by decide) ?_
        exact ⟨rfl, by rw [hcl]; exact AdQ.mk2 hq46 h1 h2 d1 d2 hlt hh⟩
      ·
        cases h61
  have loop : ∀ (as2 as1 : List Nat) (l1 l2 : List (Int × Int)) (e la : Option Nat), CAd h (aR h (lc A k) p) as1 e → CAd h e as2 none → CDt h ow (4 * k + p) as1 l1 → CDt h ow (4 * k + p) as2 l2 → cl = l1 ++ l2 → (∀ y ∈ l1, fr < y.1) → ((as1 = [] ∧ la = none) ∨ ∃ a0 b, as1 = a0 ++ [b] ∧ la = some b) → X φ (RepH cy h) 0 0 18 [(0, vr (some (nd A k))), (1, vi p), (2, vi fr), (3, vi is), (4, vr la), (5, vr e)] [] := by
    intro as2
    induction as2 with
    | nil =>
      intro as1 l1 l2 e la h1 h2 d1 d2 hcl hlt hla
      have h2 : e = none := h2
      subst h2
      have hl2 : l2 = [] := by
        cases l2 with
        | nil => rfl
        | cons v t => exact d2.elim
      subst hl2
      refine x_aload C dX4_addChange_18 rfl ?_
      refine x_ifnull (tgt := 46) C dX4_addChange_20 (by decide) (fun h20 => ?_) (fun a20 h20 => ?_)
      ·
        exact X.to (EX as1 [] l1 [] none la h1 rfl d1 trivial hcl hlt hla (fun y hy => by cases hy)) (lsc rfl (lsc rfl (lsc rfl (lsc rfl (lsc rfl (lsc rfl (lsn)))))))
      ·
        cases h20
    | cons a t ih =>
      intro as1 l1 l2 e la h1 h2 d1 d2 hcl hlt hla
      obtain ⟨rfl, h2⟩ := h2
      cases l2 with
      | nil => exact d2.elim
      | cons v l2 =>
        obtain ⟨⟨ka, ka0, ka1, kw⟩, d2⟩ := d2
        have hv := hcl9 v (by rw [hcl]; simp)
        refine x_aload C dX4_addChange_18 rfl ?_
        refine x_ifnull (tgt := 46) C dX4_addChange_20 (by decide) (fun h20 => ?_) (fun a20 h20 => ?_)
        ·
          first
          | (exfalso; cases h20; done)
          | exact X.to (EX as1 (a :: t) l1 (v :: l2) _ la h1 ⟨rfl, h2⟩ d1 ⟨⟨ka, ka0, ka1, kw⟩, d2⟩ hcl hlt hla (fun y hy => by cases hy; omega)) (lsc rfl (lsc rfl (lsc rfl (lsc rfl (lsc rfl (lsc rfl (lsn)))))))
        ·
          refine x_aload C dX4_addChange_23 rfl ?_
          refine h_get0 (f := 0) C ka (by decide) u10_5 rfl rfl dX4_addChange_25 ?_
          simp only [ka0]
          refine x_iload_n C dX4_addChange_28 rfl rfl ?_
          refine x_icmp_le (tgt := 46) C dX4_addChange_29 (by decide) (by omega) (by omega) (fun h29 => ?_) (fun h29 => ?_)
          ·
            first
            | (exfalso; cases h20; done)
            | exact X.to (EX as1 (a :: t) l1 (v :: l2) _ la h1 ⟨rfl, h2⟩ d1 ⟨⟨ka, ka0, ka1, kw⟩, d2⟩ hcl hlt hla (fun y hy => by cases hy; omega)) (lsc rfl (lsc rfl (lsc rfl (lsc rfl (lsc rfl (lsc rfl (lsn)))))))
          ·
            refine x_aload C dX4_addChange_32 rfl ?_
            refine x_astore C dX4_addChange_34 (by rw [hn]; exact Nat.le_of_ble_eq_true rfl) ?_
            refine x_aload C dX4_addChange_36 rfl ?_
            refine h_get0 (f := 2) C ka (by decide) u9_20 rfl rfl dX4_addChange_38 ?_
            refine x_astore C dX4_addChange_41 (by rw [hn]; exact Nat.le_of_ble_eq_true rfl) ?_
            refine x_goto (tgt := 18) C dX4_addChange_43 (by decide) ?_
            exact X.to (ih (as1 ++ [a]) (l1 ++ [v]) l2 _ (some a) (CAd_app.mpr ⟨_, h1, rfl, rfl⟩) h2 (CDt_app d1 ⟨⟨ka, ka0, ka1, kw⟩, trivial⟩) d2 (by rw [hcl, List.append_assoc]; rfl) (fun y hy => by
              rcases List.mem_append.mp hy with hy | hy
              · exact hlt y hy
              · rw [List.mem_singleton.mp hy]; omega) (Or.inr ⟨as1, a, rfl, rfl⟩)) (lsc rfl (lsc rfl (lsc rfl (lsc rfl (lsc rfl (lsc rfl (lsn)))))))
  obtain ⟨as, a1, a2⟩ := cls_ads hC
  refine x_iload_n C dX4_addChange_0 rfl rfl ?_
  refine x_callSN C hR cb_X6_isPurpose u2_11 (List.mem_of_getElem? (i := 2) rfl) (k_X6_isPurpose (M := M) (A := A) hst (by omega)) rfl (Nat.le_of_ble_eq_true rfl) rfl dX4_addChange_1 (by decide) (by decide) (fun E x9 h9 => absurd h9.1 (by intro h; cases h)) (fun r9 x9 h9 => ?_)
  obtain ⟨e9, q9⟩ := h9
  cases e9
  subst x9
  refine x_if_ne (tgt := 8) C dX4_addChange_4 (by decide) (by first | omega | exact bi_rng _) (fun h4 => ?_) (fun h4 => ?_)
  ·
    replace h4 := bi_ne0.mp h4
    refine x_null C dX4_addChange_8 ?_
    refine x_astore C dX4_addChange_9 (by rw [hn]; exact Nat.le_of_ble_eq_true rfl) ?_
    refine x_aload_n C dX4_addChange_11 rfl rfl ?_
    refine x_iload_n C dX4_addChange_12 rfl rfl ?_
    refine x_callV C hR cb_X4_latestChange cv_X4_latestChange u9_21 (k_X4_latestChange hst s hk (by omega)) (h_recv n0 (by decide)) ⟨_, _, rfl⟩ rfl (Nat.le_of_ble_eq_true rfl) rfl dX4_addChange_13 (by decide) (by decide) (fun E x9 h9 => absurd h9.1 (by intro h; cases h)) (fun r9 x9 h9 => ?_)
    obtain ⟨e9, q9⟩ := h9
    cases e9
    subst x9
    rw [if_pos hp]
    refine x_astore C dX4_addChange_16 (by rw [hn]; exact Nat.le_of_ble_eq_true rfl) ?_
    exact X.to (loop as [] [] cl _ none rfl a1 trivial a2 rfl (fun y hy => by cases hy) (Or.inl ⟨rfl, rfl⟩)) (lsc rfl (lsc rfl (lsc rfl (lsc rfl (lsc rfl (lsc rfl (lsn)))))))
  ·
    replace h4 := bi_eq0.mp h4
    exfalso; omega

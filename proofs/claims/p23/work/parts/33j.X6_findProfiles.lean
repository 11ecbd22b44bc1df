set_option maxRecDepth 100000 in
set_option maxHeartbeats 400000 in
theorem k_X6_findProfiles {l : Launch} {D : va_G} {cy : CY} (hst : l.stackTraces = false) {h : HS} {A : AD} {M : MS} {lz : List Int} (s : SP h A M) (v : VO h A) (hC : ChL h A lz) (hl : ∀ e ∈ lz, 0 ≤ e ∧ e < M 2 0) : Ct l D cy yX6_findProfiles (Cond.code yX6_findProfiles cX6_findProfiles 5 none) 4 83 0 0 (RepH cy) [vr (some (cO A))] h (fun r h' => r = .ok none ∧ OnlyL h h' ∧ LW h' A (lz.foldl (jbF M) (fun k => k))) := by
  refine Ct.of1 (own := RX6) hst (by decide) rfl (Nat.le_of_ble_eq_true rfl) (cat1 (vr_cat _) (cat0)) ?_
  intro φ C hQ hn hR hl hD
  subst hl hD
  obtain ⟨v0, v60, v61, v62, v63, v64, vn, vnl, vnr, vm, vml, vh, vt, vw, vwl⟩ := id v
  have loop2 : ∀ (t : List Int) (h1 : HS) (u : Option Nat) (f : Int → Int), OnlyL h h1 → LW h1 A f → LG h1 A u t none → (∀ e ∈ t, 0 ≤ e ∧ e < M 2 0) → t.foldl (jbF M) f = lz.foldl (jbF M) (fun k => k) → ∀ (x2 x3 : Int), X φ (RepH cy h1) 0 0 39 [(0, vr (some (cO A))), (1, vr u)] [] := by
    intro t
    induction t with
    | nil =>
      intro h1 u f hO1 hf1 hu ht hff x2 x3
      have hu : u = none := hu
      subst hu
      have hff : f = lz.foldl (jbF M) (fun k => k) := hff
      subst hff
      refine x_aload_n C dX6_findProfiles_39 rfl rfl ?_
      refine x_ifnull (tgt := 56) C dX6_findProfiles_40 (by decide) (fun h40 => ?_) (fun a40 h40 => ?_)
      ·
        refine x_vret C hQ dX6_findProfiles_56 rfl (by decide) (by decide) ?_
        exact ⟨rfl, hO1, hf1⟩
      ·
        cases h40
    | cons x t ih0 =>
      intro h1 u f hO1 hf1 hu ht hff x2 x3
      have ih := fun h1 u f a b c d => ih0 h1 u f a b c d
      obtain ⟨rfl, hu2⟩ := hu
      have s1 := hO1.sp s
      have v1 := hO1.vo v
      obtain ⟨w0, w60, w61, w62, w63, w64, wn, wnl, wnr, wm, wml, wh, wt, ww, wwl⟩ := id v1
      have hxl := ht x List.mem_cons_self
      have exk : kD h1 (ev A x) = 2 := (s1.ve x hxl.1 hxl.2).1
      refine x_aload_n C dX6_findProfiles_39 rfl rfl ?_
      refine x_ifnull (tgt := 56) C dX6_findProfiles_40 (by decide) (fun h40 => ?_) (fun a40 h40 => ?_)
      ·
        cases h40
      ·
        refine x_aload_n C dX6_findProfiles_43 rfl rfl ?_
        refine x_aload_n C dX6_findProfiles_44 rfl rfl ?_
        refine x_callV C hR cb_X6_joinBy cv_X6_joinBy u6_11 (k_X6_joinBy hst s1 v1 hf1 hxl) (h_recv w0 (by decide)) ⟨_, _, rfl⟩ rfl (Nat.le_of_ble_eq_true rfl) rfl dX6_findProfiles_45 (by decide) (by decide) (fun E x9 h9 => absurd h9.1 (by intro h; cases h)) (fun r9 x9 h9 => ?_)
        obtain ⟨e9, hO9, hf9⟩ := h9
        cases e9
        have exk9 : kD x9 (ev A x) = 2 := by rw [hO9.1]; exact exk
        skip
        refine x_aload_n C dX6_findProfiles_48 rfl rfl ?_
        refine h_get1 (f := 8) C exk9 (by decide) u8_3 rfl rfl dX6_findProfiles_49 ?_
        refine x_astore_n C dX6_findProfiles_52 rfl (by rw [hn]; exact Nat.le_of_ble_eq_true rfl) ?_
        refine x_goto (tgt := 39) C dX6_findProfiles_53 (by decide) ?_
        exact X.to (ih x9 _ _ (hO1.tr hO9) hf9 (by rw [hO9.2.2.2.2.2 18 (by decide)]; exact hO9.lg hu2) (fun e he => ht e (List.mem_cons_of_mem _ he)) hff x2 x3) (lsc rfl (lsc rfl lsn))
  have k31 : ∀ (h1 : HS), OnlyL h h1 → LW h1 A (fun k => k) → ∀ (x1 : Option Nat) (x2 x3 : Int), X φ (RepH cy h1) 0 0 31 [(0, vr (some (cO A)))] [] := by
    intro h1 hO1 hf1 x1 x2 x3
    have v1 := hO1.vo v
    obtain ⟨w0, w60, w61, w62, w63, w64, wn, wnl, wnr, wm, wml, wh, wt, ww, wwl⟩ := id v1
    refine x_aload_n C dX6_findProfiles_31 rfl rfl ?_
    refine h_get6 (f := 2) C w0 (by decide) u0_22 rfl rfl dX6_findProfiles_32 ?_
    try simp only [w62]
    refine h_get2 (f := 0) C wh (by decide) u8_1 rfl rfl dX6_findProfiles_35 ?_
    try simp only [w62]
    refine x_astore_n C dX6_findProfiles_38 rfl (by rw [hn]; exact Nat.le_of_ble_eq_true rfl) ?_
    exact X.to (loop2 lz h1 _ _ hO1 hf1 (by rw [hO1.2.2.2.2.2 20 (by decide)]; exact hO1.lg hC.1) hl rfl 0 0) (lsc rfl (lsc rfl lsn))
  have loop : ∀ (f9 i : Nat) (h1 : HS), OnlyL h h1 → (∀ k, 0 ≤ k → k < (i : Int) → fP h1 42 (nd A k) = none) → i ≤ 20 → 20 - i < f9 → X φ (RepH cy h1) 0 0 10 [(0, vr (some (cO A))), (1, vr (some (cN A))), (2, vi 20), (3, vi (i : Int))] [] := by
    intro f9
    induction f9 with
    | zero => intro i h1 _ _ h3 h4; omega
    | succ f9 ih =>
      intro i h1 hO1 hz h3 h4
      have s1 := hO1.sp s
      obtain ⟨w0, w60, w61, w62, w63, w64, wn, wnl, wnr, wm, wml, wh, wt, ww, wwl⟩ := hO1.vo v
      refine x_iload_n C dX6_findProfiles_10 rfl rfl ?_
      refine x_iload_n C dX6_findProfiles_11 rfl rfl ?_
      refine x_icmp_ge (tgt := 31) C dX6_findProfiles_12 (by decide) (by first | omega | exact bi_rng _) (by first | omega | exact bi_rng _) (fun h12 => ?_) (fun h12 => ?_)
      ·
        exact X.to (k31 h1 hO1 (fun k hk0 hk1 => ⟨by rw [if_pos rfl]; exact hz k hk0 (by omega), hk0, hk1⟩) none 0 0) (lsc rfl lsn)
      ·
        obtain ⟨w5n, -⟩ := s1.no i (by omega) (by omega)
        refine x_aload_n C dX6_findProfiles_15 rfl rfl ?_
        refine x_iload_n C dX6_findProfiles_16 rfl rfl ?_
        refine h_aaldN C wn (by omega) (by rw [wnl]; omega) dX6_findProfiles_17 ?_
        simp only [wnr i (by omega) (by omega)]
        refine x_astore C dX6_findProfiles_18 (by rw [hn]; exact Nat.le_of_ble_eq_true rfl) ?_
        refine x_aload C dX6_findProfiles_20 rfl ?_
        refine x_callV C hR cb_X4_standAlone cv_X4_standAlone u8_23 (k_X4_standAlone hst s1 (by omega)) (h_recv w5n (by decide)) ⟨_, _, rfl⟩ rfl (Nat.le_of_ble_eq_true rfl) rfl dX6_findProfiles_22 (by decide) (by decide) (fun E x9 h9 => absurd h9.1 (by intro h; cases h)) (fun r9 x9 h9 => ?_)
        obtain ⟨e9, q9⟩ := h9
        cases e9
        subst x9
        refine x_iinc C dX6_findProfiles_25 (by rw [hn]; exact Nat.le_of_ble_eq_true rfl) rfl ?_
        refine x_goto (tgt := 10) C dX6_findProfiles_28 (by decide) ?_
        exact X.to (ih (i + 1) _ (hO1.tr OnlyL.set) (fun k hk0 hk1 => by by_cases hki : k = i; (rw [hki, fP_set_eq]); (rw [fP_set_at (fun q => hki ((nd_inj s1 hk0 (by omega) (by omega) (by omega)).mp q))]; exact hz k hk0 (by omega))) (by omega) (by omega)) (lsc rfl (lsc rfl (lsc rfl (lsc rfl lsn))))
  refine x_aload_n C dX6_findProfiles_0 rfl rfl ?_
  refine h_get6 (f := 0) C v0 (by decide) u0_14 rfl rfl dX6_findProfiles_1 ?_
  try simp only [v60, v61, v62, v63, v64, vnl]
  refine x_astore_n C dX6_findProfiles_4 rfl (by rw [hn]; exact Nat.le_of_ble_eq_true rfl) ?_
  refine x_aload_n C dX6_findProfiles_5 rfl rfl ?_
  refine h_alen C (by omega) dX6_findProfiles_6 ?_
  try simp only [v60, v61, v62, v63, v64, vnl]
  refine x_istore_n C dX6_findProfiles_7 rfl (by rw [hn]; exact Nat.le_of_ble_eq_true rfl) ?_
  refine x_iconst C dX6_findProfiles_8 ?_
  refine x_istore_n C dX6_findProfiles_9 rfl (by rw [hn]; exact Nat.le_of_ble_eq_true rfl) ?_
  exact X.to (loop 21 0 h (OnlyL.rf h) (fun k hk0 hk1 => by omega) (by omega) (by omega)) (lsc rfl (lsc rfl (lsc rfl (lsc rfl lsn))))

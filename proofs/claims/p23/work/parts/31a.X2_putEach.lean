/-! putEach, takeMarked -/
set_option maxRecDepth 100000 in
set_option maxHeartbeats 400000 in
theorem k_X2_putEach {l : Launch} {D : va_G} {cy : CY} (hst : l.stackTraces = false) {h : HS} {A : AD} {M : MS} {lz tk : List Int} {o1 : Option Nat} (s : SP h A M) (hch : kD h (cH A) = 3) (hC : ChL h A lz) (hl : ∀ e ∈ lz, 0 ≤ e ∧ e < M 2 0) (hp : lz.Pairwise (ahd M)) (hT : LG h A o1 tk none) (htr : ∀ e ∈ tk, 0 ≤ e ∧ e < M 2 0) (htn : tk.Nodup) (htd : ∀ e ∈ tk, e ∉ lz) : Ct l D cy yX2_putEach (Cond.code yX2_putEach cX2_putEach 4 none) 4 87 0 0 (RepH cy) [vr (some (cH A)), vr o1] h (fun r h' => r = .ok none ∧ OnlyN h h' ∧ ChL h' A (insAll M tk lz)) := by
  refine Ct.of1 (own := RX2) hst (by decide) rfl (Nat.le_of_ble_eq_true rfl) (cat1 (vr_cat _) (cat1 (vr_cat _) (cat0))) ?_
  intro φ C hQ hn hR hl hD
  subst hl hD
  have loop : ∀ (tr l1 : List Int) (h1 : HS) (u : Option Nat), OnlyN h h1 → ChL h1 A l1 → (∀ e ∈ l1, 0 ≤ e ∧ e < M 2 0) → l1.Pairwise (ahd M) → LG h1 A u tr none → (∀ e ∈ tr, 0 ≤ e ∧ e < M 2 0) → tr.Nodup → (∀ e ∈ tr, e ∉ l1) → insAll M tr l1 = insAll M tk lz → X φ (RepH cy h1) 0 0 2 [(0, vr (some (cH A))), (1, vr o1), (2, vr u)] [] := by
    intro tr
    induction tr with
    | nil =>
      intro l1 h1 u hO1 hC1 hl1 hp1 ht htr htn htd hfin
      have hu : u = none := ht
      subst hu
      refine x_aload_n C dX2_putEach_2 rfl rfl ?_
      refine x_ifnull (tgt := 21) C dX2_putEach_3 (by decide) (fun h3 => ?_) (fun a3 h3 => ?_)
      ·
        refine x_vret C hQ dX2_putEach_21 rfl (by decide) (by decide) ?_
        exact ⟨rfl, hO1, by rw [← hfin]; exact hC1⟩
      ·
        cases h3
    | cons n t ih =>
      intro l1 h1 u hO1 hC1 hl1 hp1 ht htr htn htd hfin
      obtain ⟨rfl, ht2⟩ := ht
      have s1 := hO1.sp s
      have hch1 : kD h1 (cH A) = 3 := (hO1.k _).trans hch
      have hn1 := htr n List.mem_cons_self
      have hn2 : n ∉ l1 := htd n List.mem_cons_self
      have htn2 := List.nodup_cons.mp htn
      obtain ⟨hnk, -⟩ := s1.ve n hn1.1 hn1.2
      refine x_aload_n C dX2_putEach_2 rfl rfl ?_
      refine x_ifnull (tgt := 21) C dX2_putEach_3 (by decide) (fun h3 => ?_) (fun a3 h3 => ?_)
      ·
        cases h3
      ·
        refine x_aload_n C dX2_putEach_6 rfl rfl ?_
        refine h_get1 (f := 8) C hnk (by decide) u5_21 rfl rfl dX2_putEach_7 ?_
        refine x_astore_n C dX2_putEach_10 rfl (by rw [hn]; exact Nat.le_of_ble_eq_true rfl) ?_
        refine x_aload_n C dX2_putEach_11 rfl rfl ?_
        refine x_aload_n C dX2_putEach_12 rfl rfl ?_
        refine x_callV C hR cb_X2_put cv_X2_put u8_13 (k_X2_put hst s1 hch1 hC1 hl1 hp1 hn1 hn2) (h_recv hch1 (by decide)) ⟨_, _, rfl⟩ rfl (Nat.le_of_ble_eq_true rfl) rfl dX2_putEach_13 (by decide) (by decide) (fun E x9 h9 => absurd h9.1 (by intro h; cases h)) (fun r9 x9 h9 => ?_)
        obtain ⟨e9, hO9, hC9, hN9⟩ := h9
        cases e9
        refine x_aload_n C dX2_putEach_16 rfl rfl ?_
        refine x_astore_n C dX2_putEach_17 rfl (by rw [hn]; exact Nat.le_of_ble_eq_true rfl) ?_
        refine x_goto (tgt := 2) C dX2_putEach_18 (by decide) ?_
        exact X.to (ih (insO M n l1) x9 _ (hO1.tr hO9) hC9 (fun e he => by rcases (insO_mem e).mp he with rfl | he; exact hn1; exact hl1 e he) (insO_sort hp1 hn2) (LG_cong (fun e he => hN9 e (htr e (List.mem_cons_of_mem _ he)).1 (htr e (List.mem_cons_of_mem _ he)).2 (fun q => htd e (List.mem_cons_of_mem _ he) q) (fun q => htn2.1 (q ▸ he))) ht2) (fun e he => htr e (List.mem_cons_of_mem _ he)) htn2.2 (fun e he q => by rcases (insO_mem e).mp q with rfl | q; exact htn2.1 he; exact htd e (List.mem_cons_of_mem _ he) q) hfin) (lsc rfl (lsc rfl (lsc rfl lsn)))
  refine x_aload_n C dX2_putEach_0 rfl rfl ?_
  refine x_astore_n C dX2_putEach_1 rfl (by rw [hn]; exact Nat.le_of_ble_eq_true rfl) ?_
  exact X.to (loop tk lz h _ (OnlyN.rf h) hC hl hp hT htr htn htd rfl) (lsc rfl (lsc rfl (lsc rfl lsn)))

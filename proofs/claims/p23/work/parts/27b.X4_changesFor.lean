set_option maxRecDepth 100000 in
set_option maxHeartbeats 400000 in
theorem k_X4_changesFor {l : Launch} {D : va_G} {cy : CY} (hst : l.stackTraces = false) {h : HS} {A : AD} {M : MS} {k p : Int} {ow : Nat → Int} {row : Int} {cl : List (Int × Int)} (s : SP h A M) (hk : 0 ≤ k ∧ k < 20) (hp : 0 ≤ p ∧ p < 4) (hC : CLs h ow row (aR h (lc A k) p) cl) : Ct l D cy yX4_changesFor (Cond.code yX4_changesFor cX4_changesFor 4 (some .int)) 1 21 0 0 (RepH cy) [vr (some (nd A k)), vi p] h (fun r h' => r = .ok (some (vi (cl.length : Int))) ∧ h' = h) := by
  refine Ct.of1 (own := RX4) hst (by decide) rfl (Nat.le_of_ble_eq_true rfl) (cat1 (vr_cat _) (cat1 (vi_cat _) (cat0))) ?_
  intro φ C hQ hn hR hl hD
  subst hl hD
  obtain ⟨n0, n40, n41, n42, n43⟩ := s.no k hk.1 hk.2
  have loop : ∀ (t : List (Int × Int)) (u : Option Nat) (c : Int), CLs h ow row u t → c + t.length = cl.length → X φ (RepH cy h) 0 0 8 [(0, vr (some (nd A k))), (1, vi p), (2, vi c), (3, vr u)] [] := by
    intro t
    induction t with
    | nil =>
      intro u c hu hcn
      have hu : u = none := hu
      subst hu
      refine x_aload_n C dX4_changesFor_8 rfl rfl ?_
      refine x_ifnull (tgt := 23) C dX4_changesFor_9 (by decide) (fun h9 => ?_) (fun a9 h9 => ?_)
      ·
        refine x_iload_n C dX4_changesFor_23 rfl rfl ?_
        refine x_iret (ty := .int) C hQ dX4_changesFor_24 rfl rfl (by decide) (by decide) ?_
        exact ⟨rv (by simp only [List.length_nil] at hcn; omega), rfl⟩
      ·
        cases h9
    | cons v t ih =>
      intro u c hu hcn
      obtain ⟨a, rfl, a0, a1, a2, a3, a4⟩ := hu
      refine x_aload_n C dX4_changesFor_8 rfl rfl ?_
      refine x_ifnull (tgt := 23) C dX4_changesFor_9 (by decide) (fun h9 => ?_) (fun a9 h9 => ?_)
      ·
        cases h9
      ·
        refine x_iinc C dX4_changesFor_12 (by rw [hn]; exact Nat.le_of_ble_eq_true rfl) rfl ?_
        refine x_aload_n C dX4_changesFor_15 rfl rfl ?_
        refine h_get0 (f := 2) C a0 (by decide) u9_20 rfl rfl dX4_changesFor_16 ?_
        refine x_astore_n C dX4_changesFor_19 rfl (by rw [hn]; exact Nat.le_of_ble_eq_true rfl) ?_
        refine x_goto (tgt := 8) C dX4_changesFor_20 (by decide) ?_
        exact X.to (ih _ (c + 1) a4 (by simp only [List.length_cons] at hcn; omega)) (lsc rfl (lsc rfl (lsc rfl (lsc rfl lsn))))
  refine x_iconst C dX4_changesFor_0 ?_
  refine x_istore_n C dX4_changesFor_1 rfl (by rw [hn]; exact Nat.le_of_ble_eq_true rfl) ?_
  refine x_aload_n C dX4_changesFor_2 rfl rfl ?_
  refine x_iload_n C dX4_changesFor_3 rfl rfl ?_
  refine x_callV C hR cb_X4_latestChange cv_X4_latestChange u9_21 (k_X4_latestChange hst s hk (by omega)) (h_recv (by assumption) (by decide)) ⟨_, _, rfl⟩ rfl (Nat.le_of_ble_eq_true rfl) rfl dX4_changesFor_4 (by decide) (by decide) (fun E x9 h9 => absurd h9.1 (by intro h; cases h)) (fun r9 x9 h9 => ?_)
  obtain ⟨e9, q9⟩ := h9
  cases e9
  subst x9
  rw [if_pos hp]
  refine x_astore_n C dX4_changesFor_7 rfl (by rw [hn]; exact Nat.le_of_ble_eq_true rfl) ?_
  exact X.to (loop cl _ 0 hC (by omega)) (lsc rfl (lsc rfl (lsc rfl (lsc rfl lsn))))

/-! The object: what may throw; counts -/
def CNs (h : HS) (A : AD) (M : MS) (ow : Nat → Int) : Prop := ∀ k p, 0 ≤ k → k < 20 → 0 ≤ p → p < 4 → CLs h ow (4 * k + p) (aR h (lc A k) p) (slC M (4 * k + p) (M 14 (4 * k + p)).toNat)
abbrev cfP (M : MS) (f : Int → Int) (k p kind mi days e : Int) : Prop := f (ndOf M e) = k ∧ M 6 e = kind ∧ tmOf M e ≤ mi ∧ mi - days * 1440 < tmOf M e ∧ cnt M e p
def cfN (M : MS) (f : Int → Int) (k p kind mi days : Int) : List Int → Int
  | [] => 0
  | e :: l => (if cfP M f k p kind mi days e then 1 else 0) + cfN M f k p kind mi days l
theorem cnt_hc {M : MS} (hM : MI M) {e p : Int} (he : 0 ≤ e ∧ e < M 2 0) (hp : 0 ≤ p ∧ p < 4) : cnt M e p ↔ hcF (tmOf M e) (slC M (rowOf M e p) (M 14 (rowOf M e p)).toNat) = 1 := by
  have hr := rowOf_in hM he.1 he.2 (p := p) (by omega)
  have hc := hM.ch _ hr.1 hr.2
  rw [← (ch_hc hM (rowOf M e p) (tmOf M e) hr.1 hr.2 (M 14 (rowOf M e p)).toNat (by omega)).1]

set_option maxRecDepth 100000 in
set_option maxHeartbeats 400000 in
theorem k_X6_neededNode {l : Launch} {D : va_G} {cy : CY} (hst : l.stackTraces = false) {h : HS} {A : AD} {M : MS} {x : Int} (v : VO h A) (hx : -2147483648 ≤ x ∧ x ≤ 2147483647) : Ct l D cy yX6_neededNode (Cond.code yX6_neededNode cX6_neededNode 3 (some (.object "VisitorLoom$Node"))) 6 82 1 6 (RepH cy) [vr (some (cO A)), vi x] h (fun r h' => h' = h ∧ (((0 ≤ x ∧ x < 20) ∧ r = .ok (some (vr (some (nd A x))))) ∨ (¬ (0 ≤ x ∧ x < 20) ∧ r = .error "java/lang/IllegalArgumentException"))) := by
  refine Ct.of1 (own := RX6) hst (by decide) rfl (Nat.le_of_ble_eq_true rfl) (cat1 (vr_cat _) (cat1 (vi_cat _) (cat0))) ?_
  intro φ C hQ hn hR hl hD
  subst hl hD
  obtain ⟨v0, v60, v61, v62, v63, v64, vn, vnl, vnr, vm, vml, vh, vt, vw, vwl⟩ := id v
  by_cases hx2 : 0 ≤ x ∧ x < 20
  ·
    refine x_aload_n C dX6_neededNode_0 rfl rfl ?_
    refine x_iload_n C dX6_neededNode_1 rfl rfl ?_
    refine x_callV C hR cb_X6_nodeAt cv_X6_nodeAt u4_16 (k_X6_nodeAt (M := M) hst v (by omega)) (h_recv v0 (by decide)) ⟨_, _, rfl⟩ rfl (Nat.le_of_ble_eq_true rfl) rfl dX6_neededNode_2 (by decide) (by decide) (fun E x9 h9 => absurd h9.1 (by intro h; cases h)) (fun r9 x9 h9 => ?_)
    obtain ⟨e9, q9⟩ := h9
    cases e9
    subst x9
    rw [if_pos hx2]
    refine x_astore_n C dX6_neededNode_5 rfl (by rw [hn]; exact Nat.le_of_ble_eq_true rfl) ?_
    refine x_aload_n C dX6_neededNode_6 rfl rfl ?_
    refine x_ifnonnull (tgt := 21) C dX6_neededNode_7 (by decide) (fun a7 h7 => ?_) (fun h7 => ?_)
    ·
      refine x_aload_n C dX6_neededNode_21 rfl rfl ?_
      refine x_aret C hQ dX6_neededNode_22 rfl (by decide) (by decide) ?_
      exact ⟨rfl, Or.inl ⟨hx2, rfl⟩⟩
    ·
      cases h7
  ·
    refine x_aload_n C dX6_neededNode_0 rfl rfl ?_
    refine x_iload_n C dX6_neededNode_1 rfl rfl ?_
    refine x_callV C hR cb_X6_nodeAt cv_X6_nodeAt u4_16 (k_X6_nodeAt (M := M) hst v (by omega)) (h_recv v0 (by decide)) ⟨_, _, rfl⟩ rfl (Nat.le_of_ble_eq_true rfl) rfl dX6_neededNode_2 (by decide) (by decide) (fun E x9 h9 => absurd h9.1 (by intro h; cases h)) (fun r9 x9 h9 => ?_)
    obtain ⟨e9, q9⟩ := h9
    cases e9
    subst x9
    rw [if_neg hx2]
    refine x_astore_n C dX6_neededNode_5 rfl (by rw [hn]; exact Nat.le_of_ble_eq_true rfl) ?_
    refine x_aload_n C dX6_neededNode_6 rfl rfl ?_
    refine x_ifnonnull (tgt := 21) C dX6_neededNode_7 (by decide) (fun a7 h7 => ?_) (fun h7 => ?_)
    ·
      cases h7
    ·
      refine x_throwSW C hQ hR th_IAE (List.mem_of_getElem? (i := 9) rfl) dX6_neededNode_10 dX6_neededNode_13 dX6_neededNode_14 dX6_neededNode_17 dX6_neededNode_20 (by decide) (by decide) (by decide) (by decide) ?_
      exact ⟨rfl, Or.inr ⟨hx2, rfl⟩⟩

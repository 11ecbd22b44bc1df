/-! The face: what asks -/
abbrev evP (M : MS) (f : Int → Int) (k kind e : Int) : Prop := f (ndOf M e) = k ∧ (kind = -1 ∨ M 6 e = kind)
def evN (M : MS) (f : Int → Int) (k kind : Int) : List Int → Int
  | [] => 0
  | e :: l => (if evP M f k kind e then 1 else 0) + evN M f k kind l
theorem sgs_le (M : MS) (p : List Int) : (sgs M p).length ≤ p.length := by
  cases p with
  | nil => exact Nat.le_refl _
  | cons x r => exact sgs_len r x x 1 (M 7 x)

set_option maxRecDepth 100000 in
set_option maxHeartbeats 400000 in
theorem k_X6_profile {l : Launch} {D : va_G} {cy : CY} (hst : l.stackTraces = false) {h : HS} {A : AD} {M : MS} {x : Int} {f : Int → Int} (s : SP h A M) (v : VO h A) (hf : LW h A f) (hx : -2147483648 ≤ x ∧ x ≤ 2147483647) : Ct l D cy yX6_profile (Cond.code yX6_profile cX6_profile 2 (some .int)) 7 104 1 6 (RepH cy) [vr (some (cO A)), vi x] h (fun r h' => h' = h ∧ (((0 ≤ x ∧ x < 20) ∧ r = .ok (some (vi (f x)))) ∨ (¬ (0 ≤ x ∧ x < 20) ∧ r = .error "java/lang/IllegalArgumentException"))) := by
  refine Ct.of1 (own := RX6) hst (by decide) rfl (Nat.le_of_ble_eq_true rfl) (cat1 (vr_cat _) (cat1 (vi_cat _) (cat0))) ?_
  intro φ C hQ hn hR hl hD
  subst hl hD
  obtain ⟨v0, v60, v61, v62, v63, v64, vn, vnl, vnr, vm, vml, vh, vt, vw, vwl⟩ := id v
  refine x_aload_n C dX6_profile_0 rfl rfl ?_
  refine x_iload_n C dX6_profile_1 rfl rfl ?_
  refine x_callV C hR cb_X6_neededNode cv_X6_neededNode u10_22 (k_X6_neededNode (M := M) hst v (by omega)) (h_recv v0 (by decide)) ⟨_, _, rfl⟩ rfl (Nat.le_of_ble_eq_true rfl) rfl dX6_profile_2 (by decide) (by decide) (fun E x9 h9 => by (obtain ⟨q9, g9⟩ := h9; subst x9; rcases g9 with ⟨-, g⟩ | ⟨g1, g⟩; (cases g); (cases g; exact xt_out C hQ (by decide) (by decide) ⟨rfl, Or.inr ⟨g1, rfl⟩⟩))) (fun r9 x9 h9 => ?_)
  obtain ⟨q9, g9⟩ := h9
  subst x9
  obtain ⟨hx2, e9⟩ := g9.resolve_right (fun g => by cases g.2)
  cases e9
  have hfx := (hf x hx2.1 hx2.2).2
  obtain ⟨n0, n40, -⟩ := s.no (f x) hfx.1 hfx.2
  obtain ⟨m0, -⟩ := s.no x hx2.1 hx2.2
  refine x_callV C hR cb_X4_lowest cv_X4_lowest u7_6 (k_X4_lowest hst s hf hx2) (h_recv m0 (by decide)) ⟨_, _, rfl⟩ rfl (Nat.le_of_ble_eq_true rfl) rfl dX6_profile_5 (by decide) (by decide) (fun E x9 h9 => absurd h9.1 (by intro h; cases h)) (fun r9 x9 h9 => ?_)
  obtain ⟨e9, q9⟩ := h9
  cases e9
  subst x9
  refine h_get4 (f := 0) C n0 (by decide) u7_15 rfl rfl dX6_profile_8 ?_
  try simp only [n40]
  refine x_iret (ty := .int) C hQ dX6_profile_11 rfl rfl (by decide) (by decide) ?_
  exact ⟨rfl, Or.inl ⟨hx2, rfl⟩⟩

/-! The groups of a profile -/
/-- the chain of groups: n groups from number g on -/
def GL (h : HS) (A : AD) (M : MS) : Nat → Int → Option Nat → Prop
  | 0, _, u => u = none
  | n + 1, g, u => u = some (gp A g) ∧ grpOK h A M g ∧ GL h A M n (g + 1) (fP h 36 (gp A g))
def grA (M : MS) (f : Int → Int) (k : Int) (l : List Int) : Nat → Int → Int → Int
  | 0, _, acc => acc
  | n + 1, g, acc => grA M f k l n (g + 1) (if M 20 g ≤ cfN M f k (M 18 g) (M 19 g) (M 1 0) (M 21 g) l then bOp (· ||| ·) acc (bOp (fun x y => x <<< (y &&& 31)) 1 g) else acc)
theorem cfN_in (M : MS) (f : Int → Int) (k p kind mi days : Int) : ∀ l : List Int, 0 ≤ cfN M f k p kind mi days l ∧ cfN M f k p kind mi days l ≤ l.length := by
  intro l
  induction l with
  | nil => simp [cfN]
  | cons x l ih => simp only [cfN, List.length_cons]; split <;> omega

set_option maxRecDepth 100000 in
set_option maxHeartbeats 400000 in
theorem k_X6_groups {l : Launch} {D : va_G} {cy : CY} (hst : l.stackTraces = false) {h : HS} {A : AD} {M : MS} {x : Int} {lz : List Int} {f : Int → Int} {ow : Nat → Int} (s : SP h A M) (v : VO h A) (hf : LW h A f) (hC : ChL h A lz) (hl : ∀ e ∈ lz, 0 ≤ e ∧ e < M 2 0) (hll : (lz.length : Int) ≤ 200) (hCN : CNs h A M ow) (h71 : fI h 71 (cO A) = M 1 0) (hG : GL h A M (M 17 0).toNat 0 (fP h 65 (cO A))) (hx : -2147483648 ≤ x ∧ x ≤ 2147483647) : Ct l D cy yX6_groups (Cond.code yX6_groups cX6_groups 5 (some .int)) 7 104 1 6 (RepH cy) [vr (some (cO A)), vi x] h (fun r h' => h' = h ∧ (((0 ≤ x ∧ x < 20) ∧ r = .ok (some (vi (grA M f (f x) lz (M 17 0).toNat 0 0)))) ∨ (¬ (0 ≤ x ∧ x < 20) ∧ r = .error "java/lang/IllegalArgumentException"))) := by
  refine Ct.of1 (own := RX6) hst (by decide) rfl (Nat.le_of_ble_eq_true rfl) (cat1 (vr_cat _) (cat1 (vi_cat _) (cat0))) ?_
  intro φ C hQ hn hR hl hD
  subst hl hD
  obtain ⟨v0, v60, v61, v62, v63, v64, vn, vnl, vnr, vm, vml, vh, vt, vw, vwl⟩ := id v
  have LOOP : (0 ≤ x ∧ x < 20) → X φ (RepH cy h) 1 6 17 [(0, vr (some (cO A))), (2, vr (some (nd A (f x)))), (3, vi 0), (4, vr (fP h 65 (cO A)))] [] := by
    intro hx2
    have hNow := s.mi.now
    have hGn := s.mi.gn
    have loop : ∀ (n : Nat) (g : Int) (u : Option Nat) (acc : Int), GL h A M n g u → 0 ≤ g → g + n ≤ M 17 0 → grA M f (f x) lz n g acc = grA M f (f x) lz (M 17 0).toNat 0 0 → X φ (RepH cy h) 1 6 17 [(0, vr (some (cO A))), (2, vr (some (nd A (f x)))), (3, vi acc), (4, vr u)] [] := by
      intro n
      induction n with
      | zero =>
        intro g u acc hu hg0 hgn hcc
        have hu : u = none := hu
        subst hu
        refine x_aload C dX6_groups_17 rfl ?_
        refine x_ifnull (tgt := 74) C dX6_groups_19 (by decide) (fun h19 => ?_) (fun a19 h19 => ?_)
        ·
          refine x_iload_n C dX6_groups_74 rfl rfl ?_
          refine x_iret (ty := .int) C hQ dX6_groups_75 rfl rfl (by decide) (by decide) ?_
          exact ⟨rfl, Or.inl ⟨hx2, by rw [← hcc]; rfl⟩⟩
        ·
          cases h19
      | succ n ih0 =>
        intro g u acc hu hg0 hgn hcc
        have ih := fun g u acc a b c d => ih0 g u acc a b c d
        obtain ⟨rfl, ⟨g0, g30, g31, g32, g33, g34⟩, hu2⟩ := hu
        have hgr := s.mi.gr g hg0 (by omega)
        simp only [MGr] at hgr
        have hcb := cfN_in M f (f x) (M 18 g) (M 19 g) (M 1 0) (M 21 g) lz
        have hcc : grA M f (f x) lz n (g + 1) (if M 20 g ≤ cfN M f (f x) (M 18 g) (M 19 g) (M 1 0) (M 21 g) lz then bOp (· ||| ·) acc (bOp (fun x y => x <<< (y &&& 31)) 1 g) else acc) = grA M f (f x) lz (M 17 0).toNat 0 0 := hcc
        refine x_aload C dX6_groups_17 rfl ?_
        refine x_ifnull (tgt := 74) C dX6_groups_19 (by decide) (fun h19 => ?_) (fun a19 h19 => ?_)
        ·
          cases h19
        ·
          refine x_aload_n C dX6_groups_22 rfl rfl ?_
          refine x_aload_n C dX6_groups_23 rfl rfl ?_
          refine x_aload C dX6_groups_24 rfl ?_
          refine h_get3 (f := 1) C g0 (by decide) u15_21 rfl rfl dX6_groups_26 ?_
          simp only [g31]
          refine x_aload C dX6_groups_29 rfl ?_
          refine h_get3 (f := 2) C g0 (by decide) u15_22 rfl rfl dX6_groups_31 ?_
          simp only [g32]
          refine x_aload_n C dX6_groups_34 rfl rfl ?_
          refine h_get6 (f := 11) C v0 (by decide) u1_4 rfl rfl dX6_groups_35 ?_
          simp only [h71]
          refine x_aload C dX6_groups_38 rfl ?_
          refine h_get3 (f := 4) C g0 (by decide) u15_23 rfl rfl dX6_groups_40 ?_
          simp only [g34]
          refine x_callV C hR cb_X6_countFor cv_X6_countFor u15_4 (k_X6_countFor hst s v hf hC hl hCN (hf x hx2.1 hx2.2).2 (by omega) (by omega) (by omega) (by omega)) (h_recv v0 (by decide)) ⟨_, _, rfl⟩ rfl (Nat.le_of_ble_eq_true rfl) rfl dX6_groups_43 (by decide) (by decide) (fun E x9 h9 => absurd h9.1 (by intro h; cases h)) (fun r9 x9 h9 => ?_)
          obtain ⟨e9, q9⟩ := h9
          cases e9
          subst x9
          refine x_aload C dX6_groups_46 rfl ?_
          refine h_get3 (f := 3) C g0 (by decide) u16_0 rfl rfl dX6_groups_48 ?_
          simp only [g33]
          refine x_icmp_lt (tgt := 64) C dX6_groups_51 (by decide) (by omega) (by omega) (fun h51 => ?_) (fun h51 => ?_)
          ·
            refine x_aload C dX6_groups_64 rfl ?_
            refine h_get3 (f := 6) C g0 (by decide) u2_8 rfl rfl dX6_groups_66 ?_
            refine x_astore C dX6_groups_69 (by rw [hn]; exact Nat.le_of_ble_eq_true rfl) ?_
            refine x_goto (tgt := 17) C dX6_groups_71 (by decide) ?_
            first
            | (rw [if_pos h51] at hcc
               exact X.to (ih (g + 1) _ _ hu2 (by omega) (by omega) hcc) (lsc rfl (lsc rfl (lsc rfl (lsc rfl (lsn))))))
            | (rw [if_neg (by omega)] at hcc
               exact X.to (ih (g + 1) _ _ hu2 (by omega) (by omega) hcc) (lsc rfl (lsc rfl (lsc rfl (lsc rfl (lsn))))))
          ·
            refine x_iload_n C dX6_groups_54 rfl rfl ?_
            refine x_iconst C dX6_groups_55 ?_
            refine x_aload C dX6_groups_56 rfl ?_
            refine h_get3 (f := 0) C g0 (by decide) u2_9 rfl rfl dX6_groups_58 ?_
            simp only [g30]
            refine x_ishl C dX6_groups_61 ?_
            refine x_ior C dX6_groups_62 ?_
            refine x_istore_n C dX6_groups_63 rfl (by rw [hn]; exact Nat.le_of_ble_eq_true rfl) ?_
            refine x_aload C dX6_groups_64 rfl ?_
            refine h_get3 (f := 6) C g0 (by decide) u2_8 rfl rfl dX6_groups_66 ?_
            refine x_astore C dX6_groups_69 (by rw [hn]; exact Nat.le_of_ble_eq_true rfl) ?_
            refine x_goto (tgt := 17) C dX6_groups_71 (by decide) ?_
            first
            | (rw [if_pos h51] at hcc
               exact X.to (ih (g + 1) _ _ hu2 (by omega) (by omega) hcc) (lsc rfl (lsc rfl (lsc rfl (lsc rfl (lsn))))))
            | (rw [if_neg (by omega)] at hcc
               exact X.to (ih (g + 1) _ _ hu2 (by omega) (by omega) hcc) (lsc rfl (lsc rfl (lsc rfl (lsc rfl (lsn))))))
    exact X.to (loop (M 17 0).toNat 0 _ 0 hG (by omega) (by omega) rfl) (lsc rfl (lsc rfl (lsc rfl (lsc rfl (lsn)))))
  refine x_aload_n C dX6_groups_0 rfl rfl ?_
  refine x_iload_n C dX6_groups_1 rfl rfl ?_
  refine x_callV C hR cb_X6_neededNode cv_X6_neededNode u10_22 (k_X6_neededNode (M := M) hst v (by omega)) (h_recv v0 (by decide)) ⟨_, _, rfl⟩ rfl (Nat.le_of_ble_eq_true rfl) rfl dX6_groups_2 (by decide) (by decide) (fun E x9 h9 => by (obtain ⟨q9, g9⟩ := h9; subst x9; rcases g9 with ⟨-, g⟩ | ⟨g1, g⟩; (cases g); (cases g; exact xt_out C hQ (by decide) (by decide) ⟨rfl, Or.inr ⟨g1, rfl⟩⟩))) (fun r9 x9 h9 => ?_)
  obtain ⟨q9, g9⟩ := h9
  subst x9
  obtain ⟨hx2, e9⟩ := g9.resolve_right (fun g => by cases g.2)
  cases e9
  have hfx := (hf x hx2.1 hx2.2).2
  obtain ⟨m0, -⟩ := s.no x hx2.1 hx2.2
  refine x_callV C hR cb_X4_lowest cv_X4_lowest u7_6 (k_X4_lowest hst s hf hx2) (h_recv m0 (by decide)) ⟨_, _, rfl⟩ rfl (Nat.le_of_ble_eq_true rfl) rfl dX6_groups_5 (by decide) (by decide) (fun E x9 h9 => absurd h9.1 (by intro h; cases h)) (fun r9 x9 h9 => ?_)
  obtain ⟨e9, q9⟩ := h9
  cases e9
  subst x9
  refine x_astore_n C dX6_groups_8 rfl (by rw [hn]; exact Nat.le_of_ble_eq_true rfl) ?_
  refine x_iconst C dX6_groups_9 ?_
  refine x_istore_n C dX6_groups_10 rfl (by rw [hn]; exact Nat.le_of_ble_eq_true rfl) ?_
  refine x_aload_n C dX6_groups_11 rfl rfl ?_
  refine h_get6 (f := 5) C v0 (by decide) u2_7 rfl rfl dX6_groups_12 ?_
  refine x_astore C dX6_groups_15 (by rw [hn]; exact Nat.le_of_ble_eq_true rfl) ?_
  exact X.to (LOOP hx2) (lsc rfl (lsc rfl (lsc rfl (lsc rfl (lsn)))))

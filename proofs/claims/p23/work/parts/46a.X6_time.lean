/-! The face: the time of an event; a node's changes are taken away -/
def tmN (M : MS) (x : Int) : List Int → Int
  | [] => -1
  | e :: l => if M 3 e = x then tmOf M e else tmN M x l
theorem tmN_p {M : MS} {x e : Int} {l : List Int} (h : M 3 e = x) : tmN M x (e :: l) = tmOf M e := if_pos h
theorem tmN_n {M : MS} {x e : Int} {l : List Int} (h : ¬ M 3 e = x) : tmN M x (e :: l) = tmN M x l := if_neg h

set_option maxRecDepth 100000 in
set_option maxHeartbeats 400000 in
theorem k_X6_time {l : Launch} {D : va_G} {cy : CY} (hst : l.stackTraces = false) {h : HS} {A : AD} {M : MS} {x : Int} {lz : List Int} (s : SP h A M) (v : VO h A) (hC : ChL h A lz) (hl : ∀ e ∈ lz, 0 ≤ e ∧ e < M 2 0) (hx : -2147483648 ≤ x ∧ x ≤ 2147483647) : Ct l D cy yX6_time (Cond.code yX6_time cX6_time 3 (some .int)) 2 41 0 0 (RepH cy) [vr (some (cO A)), vi x] h (fun r h' => h' = h ∧ r = .ok (some (vi (tmN M x lz)))) := by
  refine Ct.of1 (own := RX6) hst (by decide) rfl (Nat.le_of_ble_eq_true rfl) (cat1 (vr_cat _) (cat1 (vi_cat _) (cat0))) ?_
  intro φ C hQ hn hR hl hD
  subst hl hD
  obtain ⟨v0, v60, v61, v62, v63, v64, vn, vnl, vnr, vm, vml, vh, vt, vw, vwl⟩ := id v
  have loop : ∀ (t : List Int) (u : Option Nat), LG h A u t none → (∀ e ∈ t, 0 ≤ e ∧ e < M 2 0) → tmN M x t = tmN M x lz → X φ (RepH cy h) 0 0 8 [(0, vr (some (cO A))), (1, vi x), (2, vr u)] [] := by
    intro t
    induction t with
    | nil =>
      intro u hu ht hcc
      have hu : u = none := hu
      subst hu
      refine x_aload_n C dX6_time_8 rfl rfl ?_
      refine x_ifnull (tgt := 33) C dX6_time_9 (by decide) (fun h9 => ?_) (fun a9 h9 => ?_)
      ·
        refine x_iconst C dX6_time_33 ?_
        refine x_iret (ty := .int) C hQ dX6_time_34 rfl rfl (by decide) (by decide) ?_
        exact ⟨rfl, by rw [← hcc]; rfl⟩
      ·
        cases h9
    | cons y t ih =>
      intro u hu ht hcc
      obtain ⟨rfl, hu2⟩ := hu
      have hxl := ht y List.mem_cons_self
      obtain ⟨exk, e10, e11, e12, e13, e14, e15, e16⟩ := s.ve y hxl.1 hxl.2
      obtain ⟨h3, -⟩ := s.mi.ev y hxl.1 hxl.2
      refine x_aload_n C dX6_time_8 rfl rfl ?_
      refine x_ifnull (tgt := 33) C dX6_time_9 (by decide) (fun h9 => ?_) (fun a9 h9 => ?_)
      ·
        cases h9
      ·
        refine x_aload_n C dX6_time_12 rfl rfl ?_
        refine h_get1 (f := 0) C exk (by decide) u14_6 rfl rfl dX6_time_13 ?_
        simp only [e10]
        refine x_iload_n C dX6_time_16 rfl rfl ?_
        refine x_icmp_ne (tgt := 25) C dX6_time_17 (by decide) (by omega) (by omega) (fun h17 => ?_) (fun h17 => ?_)
        ·
          refine x_aload_n C dX6_time_25 rfl rfl ?_
          refine h_get1 (f := 8) C exk (by decide) u8_3 rfl rfl dX6_time_26 ?_
          refine x_astore_n C dX6_time_29 rfl (by rw [hn]; exact Nat.le_of_ble_eq_true rfl) ?_
          refine x_goto (tgt := 8) C dX6_time_30 (by decide) ?_
          exact X.to (ih _ hu2 (fun e he => ht e (List.mem_cons_of_mem _ he)) (by rw [← hcc, tmN_n h17])) (lsc rfl (lsc rfl (lsc rfl (lsn))))
        ·
          refine x_aload_n C dX6_time_20 rfl rfl ?_
          refine x_callV C hR cb_X1_minute cv_X1_minute u14_11 (k_X1_minute hst s hxl) (h_recv exk (by decide)) ⟨_, _, rfl⟩ rfl (Nat.le_of_ble_eq_true rfl) rfl dX6_time_21 (by decide) (by decide) (fun E x9 h9 => absurd h9.1 (by intro h; cases h)) (fun r9 x9 h9 => ?_)
          obtain ⟨e9, q9⟩ := h9
          cases e9
          subst x9
          refine x_iret (ty := .int) C hQ dX6_time_24 rfl rfl (by decide) (by decide) ?_
          exact ⟨rfl, by rw [← hcc, tmN_p h17]⟩
  refine x_aload_n C dX6_time_0 rfl rfl ?_
  refine h_get6 (f := 2) C v0 (by decide) u0_22 rfl rfl dX6_time_1 ?_
  try simp only [v60, v61, v62, v63, v64]
  refine h_get2 (f := 0) C vh (by decide) u8_1 rfl rfl dX6_time_4 ?_
  try simp only [v60, v61, v62, v63, v64]
  refine x_astore_n C dX6_time_7 rfl (by rw [hn]; exact Nat.le_of_ble_eq_true rfl) ?_
  exact X.to (loop lz _ hC.1 hl rfl) (lsc rfl (lsc rfl (lsc rfl (lsn))))

/-! The class's small methods -/
set_option maxRecDepth 100000 in
set_option maxHeartbeats 4000000 in
theorem k_X1_minute {l : Launch} {D : va_G} {cy : CY} (hst : l.stackTraces = false) {h : HS} {A : AD} {M : MS} {e : Int} (s : SP h A M) (he : 0 ≤ e ∧ e < M 2 0) : Ct l D cy yX1_minute (Cond.code yX1_minute cX1_minute 1 (some .int)) 1 21 0 0 (RepH cy) [vr (some (ev A e))] h (fun r h' => r = .ok (some (vi (tmOf M e))) ∧ h' = h) := by
  refine Ct.of1 (own := RX1) hst (by decide) rfl (Nat.le_of_ble_eq_true rfl) (cat1 (vr_cat _) (cat0)) ?_
  intro φ C hQ hn hR hl hD
  subst hl hD
  obtain ⟨e0, e10, e11, e12, e13, e14, e15, e16⟩ := s.ve e he.1 he.2
  obtain ⟨⟨m3a, m3b⟩, ⟨m4a, m4b⟩, ⟨m5a, m5b⟩, ⟨m6a, m6b⟩, ⟨m7a, m7b⟩, ⟨m8a, m8b⟩⟩ := s.mi.ev e he.1 he.2
  obtain ⟨d0, d40, d41, d42, d43⟩ := s.no (10 + M 4 e) (by omega) (by omega)
  obtain ⟨v44, v45, v43⟩ := s.dv (M 4 e) (by omega) (by omega)
  have hsk := s.mi.sk _ m4a m4b
  have g12 := s.mi.b12 (M 4 e)
  have hN := s.mi.n
  refine x_iconst C dX1_minute_0 ?_
  refine x_aload_n C dX1_minute_1 rfl rfl ?_
  refine h_get1 (f := 5) C (by assumption) (by decide) u5_13 rfl rfl dX1_minute_2 ?_
  try simp only [e10, e11, e12, e13, e14, e15, e16, v44, v45]
  refine x_aload_n C dX1_minute_5 rfl rfl ?_
  refine h_get1 (f := 1) C (by assumption) (by decide) u5_9 rfl rfl dX1_minute_6 ?_
  try simp only [e10, e11, e12, e13, e14, e15, e16, v44, v45]
  refine h_get4 (f := 5) C (by assumption) (by decide) u6_6 rfl rfl dX1_minute_9 ?_
  try simp only [e10, e11, e12, e13, e14, e15, e16, v44, v45]
  refine x_isub C dX1_minute_12 ?_
  refine x_max C hR u6_7 u6_8 u6_9 u6_10 dX1_minute_13 (by decide) (Nat.le_of_ble_eq_true rfl) (by decide) (by first | omega | exact bi_rng _) (by first | omega | exact bi_rng _) ?_
  refine x_iret (ty := .int) C hQ dX1_minute_16 rfl rfl (by decide) (by decide) ?_
  exact ⟨rv (by simp only [tmOf]; split <;> split <;> omega), rfl⟩

set_option maxRecDepth 100000 in
set_option maxHeartbeats 4000000 in
theorem k_X1_isBefore {l : Launch} {D : va_G} {cy : CY} (hst : l.stackTraces = false) {h : HS} {A : AD} {M : MS} {e u : Int} (s : SP h A M) (he : 0 ≤ e ∧ e < M 2 0) (hu : 0 ≤ u ∧ u < M 2 0) : Ct l D cy yX1_isBefore (Cond.code yX1_isBefore cX1_isBefore 4 (some .boolean)) 2 41 0 0 (RepH cy) [vr (some (ev A e)), vr (some (ev A u))] h (fun r h' => r = .ok (some (vi (bi (ahd M e u)))) ∧ h' = h) := by
  refine Ct.of1 (own := RX1) hst (by decide) rfl (Nat.le_of_ble_eq_true rfl) (cat1 (vr_cat _) (cat1 (vr_cat _) (cat0))) ?_
  intro φ C hQ hn hR hl hD
  subst hl hD
  obtain ⟨e0, e10, e11, e12, e13, e14, e15, e16⟩ := s.ve e he.1 he.2
  obtain ⟨⟨m3a, m3b⟩, ⟨m4a, m4b⟩, ⟨m5a, m5b⟩, ⟨m6a, m6b⟩, ⟨m7a, m7b⟩, ⟨m8a, m8b⟩⟩ := s.mi.ev e he.1 he.2
  obtain ⟨d0, d40, d41, d42, d43⟩ := s.no (10 + M 4 e) (by omega) (by omega)
  obtain ⟨v44, v45, v43⟩ := s.dv (M 4 e) (by omega) (by omega)
  have hsk := s.mi.sk _ m4a m4b
  have g12 := s.mi.b12 (M 4 e)
  have hN := s.mi.n
  obtain ⟨f0, f10, f11, f12, f13, f14, f15, f16⟩ := s.ve u hu.1 hu.2
  have t1 := tmOf_in s.mi he.1 he.2
  have t2 := tmOf_in s.mi hu.1 hu.2
  refine x_aload_n C dX1_isBefore_0 rfl rfl ?_
  refine x_callV C hR cb_X1_minute cv_X1_minute u6_2 (k_X1_minute hst s (by omega)) (h_recv (by assumption) (by decide)) ⟨_, _, rfl⟩ rfl (Nat.le_of_ble_eq_true rfl) rfl dX1_isBefore_1 (by decide) (by decide) (fun E x9 h9 => absurd h9.1 (by intro h; cases h)) (fun r9 x9 h9 => ?_)
  obtain ⟨e9, rfl⟩ := h9
  cases e9
  refine x_istore_n C dX1_isBefore_4 rfl (by rw [hn]; exact Nat.le_of_ble_eq_true rfl) ?_
  refine x_aload_n C dX1_isBefore_5 rfl rfl ?_
  refine x_callV C hR cb_X1_minute cv_X1_minute u6_2 (k_X1_minute hst s (by omega)) (h_recv (by assumption) (by decide)) ⟨_, _, rfl⟩ rfl (Nat.le_of_ble_eq_true rfl) rfl dX1_isBefore_6 (by decide) (by decide) (fun E x9 h9 => absurd h9.1 (by intro h; cases h)) (fun r9 x9 h9 => ?_)
  obtain ⟨e9, rfl⟩ := h9
  cases e9
  refine x_istore_n C dX1_isBefore_9 rfl (by rw [hn]; exact Nat.le_of_ble_eq_true rfl) ?_
  refine x_iload_n C dX1_isBefore_10 rfl rfl ?_
  refine x_iload_n C dX1_isBefore_11 rfl rfl ?_
  refine x_icmp_lt (tgt := 31) C dX1_isBefore_12 (by decide) (by first | omega | exact bi_rng _) (by first | omega | exact bi_rng _) (fun h12 => ?_) (fun h12 => ?_)
  ·
    refine x_iconst C dX1_isBefore_31 ?_
    refine x_goto (tgt := 36) C dX1_isBefore_32 (by decide) ?_
    refine x_iret (ty := .boolean) C hQ dX1_isBefore_36 rfl (by decide) (by decide) (by decide) ?_
    exact ⟨rv (by simp only [bi]; split <;> omega), rfl⟩
  ·
    refine x_iload_n C dX1_isBefore_15 rfl rfl ?_
    refine x_iload_n C dX1_isBefore_16 rfl rfl ?_
    refine x_icmp_ne (tgt := 35) C dX1_isBefore_17 (by decide) (by first | omega | exact bi_rng _) (by first | omega | exact bi_rng _) (fun h17 => ?_) (fun h17 => ?_)
    ·
      refine x_iconst C dX1_isBefore_35 ?_
      refine x_iret (ty := .boolean) C hQ dX1_isBefore_36 rfl (by decide) (by decide) (by decide) ?_
      exact ⟨rv (by simp only [bi]; split <;> omega), rfl⟩
    ·
      refine x_aload_n C dX1_isBefore_20 rfl rfl ?_
      refine h_get1 (f := 6) C (by assumption) (by decide) u5_14 rfl rfl dX1_isBefore_21 ?_
      try simp only [e10, e11, e12, e13, e14, e15, e16, v44, v45, f16]
      refine x_aload_n C dX1_isBefore_24 rfl rfl ?_
      refine h_get1 (f := 6) C (by assumption) (by decide) u5_14 rfl rfl dX1_isBefore_25 ?_
      try simp only [e10, e11, e12, e13, e14, e15, e16, v44, v45, f16]
      refine x_icmp_ge (tgt := 35) C dX1_isBefore_28 (by decide) (by first | omega | exact bi_rng _) (by first | omega | exact bi_rng _) (fun h28 => ?_) (fun h28 => ?_)
      ·
        refine x_iconst C dX1_isBefore_35 ?_
        refine x_iret (ty := .boolean) C hQ dX1_isBefore_36 rfl (by decide) (by decide) (by decide) ?_
        exact ⟨rv (by simp only [bi]; split <;> omega), rfl⟩
      ·
        refine x_iconst C dX1_isBefore_31 ?_
        refine x_goto (tgt := 36) C dX1_isBefore_32 (by decide) ?_
        refine x_iret (ty := .boolean) C hQ dX1_isBefore_36 rfl (by decide) (by decide) (by decide) ?_
        exact ⟨rv (by simp only [bi]; split <;> omega), rfl⟩

set_option maxRecDepth 100000 in
set_option maxHeartbeats 4000000 in
theorem k_X4_bit {l : Launch} {D : va_G} {cy : CY} (hst : l.stackTraces = false) {h : HS} {A : AD} {M : MS} {k : Int} (s : SP h A M) (hk : 0 ≤ k ∧ k < 20) : Ct l D cy yX4_bit (Cond.code yX4_bit cX4_bit 1 (some .int)) 0 0 0 0 (RepH cy) [vr (some (nd A k))] h (fun r h' => r = .ok (some (vi (bitI k))) ∧ h' = h) := by
  refine Ct.of1 (own := RX4) hst (by decide) rfl (Nat.le_of_ble_eq_true rfl) (cat1 (vr_cat _) (cat0)) ?_
  intro φ C hQ hn hR hl hD
  subst hl hD
  obtain ⟨n0, n40, n41, n42, n43⟩ := s.no k hk.1 hk.2
  refine x_iconst C dX4_bit_0 ?_
  refine x_aload_n C dX4_bit_1 rfl rfl ?_
  refine h_get4 (f := 0) C (by assumption) (by decide) u1_9 rfl rfl dX4_bit_2 ?_
  try simp only [n40]
  refine x_ishl C dX4_bit_5 ?_
  refine x_iret (ty := .int) C hQ dX4_bit_6 rfl rfl (by decide) (by decide) ?_
  exact ⟨rfl, rfl⟩

set_option maxRecDepth 100000 in
set_option maxHeartbeats 4000000 in
theorem k_X4_lowest {l : Launch} {D : va_G} {cy : CY} (hst : l.stackTraces = false) {h : HS} {A : AD} {M : MS} {k : Int} {f : Int → Int} (s : SP h A M) (hf : LW h A f) (hk : 0 ≤ k ∧ k < 20) : Ct l D cy yX4_lowest (Cond.code yX4_lowest cX4_lowest 1 (some (.object "VisitorLoom$Node"))) 0 0 0 0 (RepH cy) [vr (some (nd A k))] h (fun r h' => r = .ok (some (vr (some (nd A (f k))))) ∧ h' = h) := by
  refine Ct.of1 (own := RX4) hst (by decide) rfl (Nat.le_of_ble_eq_true rfl) (cat1 (vr_cat _) (cat0)) ?_
  intro φ C hQ hn hR hl hD
  subst hl hD
  obtain ⟨n0, n40, n41, n42, n43⟩ := s.no k hk.1 hk.2
  obtain ⟨l1, l2⟩ := hf k hk.1 hk.2
  refine x_aload_n C dX4_lowest_0 rfl rfl ?_
  refine h_get4 (f := 2) C (by assumption) (by decide) u7_10 rfl rfl dX4_lowest_1 ?_
  try simp only [l1]
  refine x_ifnonnull (tgt := 11) C dX4_lowest_4 (by decide) (fun a4 h4 => ?_) (fun h4 => ?_)
  ·
    refine x_aload_n C dX4_lowest_11 rfl rfl ?_
    refine h_get4 (f := 2) C (by assumption) (by decide) u7_10 rfl rfl dX4_lowest_12 ?_
    try simp only [l1]
    refine x_aret C hQ dX4_lowest_15 rfl (by decide) (by decide) ?_
    by_cases hfk : f k = k
    · (first | (rw [if_pos hfk] at h4; exfalso; simp at h4; done) | (rw [hfk]; exact ⟨rfl, rfl⟩))
    · (first | (rw [if_neg hfk] at h4; exfalso; simp at h4; done) | (rw [if_neg hfk]; exact ⟨rfl, rfl⟩))
  ·
    refine x_aload_n C dX4_lowest_7 rfl rfl ?_
    refine x_goto (tgt := 15) C dX4_lowest_8 (by decide) ?_
    refine x_aret C hQ dX4_lowest_15 rfl (by decide) (by decide) ?_
    by_cases hfk : f k = k
    · (first | (rw [if_pos hfk] at h4; exfalso; simp at h4; done) | (rw [hfk]; exact ⟨rfl, rfl⟩))
    · (first | (rw [if_neg hfk] at h4; exfalso; simp at h4; done) | (rw [if_neg hfk]; exact ⟨rfl, rfl⟩))

set_option maxRecDepth 100000 in
set_option maxHeartbeats 4000000 in
theorem k_X4_mayLink {l : Launch} {D : va_G} {cy : CY} (hst : l.stackTraces = false) {h : HS} {A : AD} {M : MS} {d a : Int} (s : SP h A M) (hd9 : 0 ≤ d ∧ d < 10) (ha : 0 ≤ a ∧ a < 10) : Ct l D cy yX4_mayLink (Cond.code yX4_mayLink cX4_mayLink 2 (some .boolean)) 1 20 0 0 (RepH cy) [vr (some (nd A (10 + d))), vr (some (nd A a))] h (fun r h' => r = .ok (some (vi (bi (M 13 (10 * d + a) = 0)))) ∧ h' = h) := by
  refine Ct.of1 (own := RX4) hst (by decide) rfl (Nat.le_of_ble_eq_true rfl) (cat1 (vr_cat _) (cat1 (vr_cat _) (cat0))) ?_
  intro φ C hQ hn hR hl hD
  subst hl hD
  obtain ⟨n0, n40, n41, n42, n43⟩ := s.no (10 + d) (by omega) (by omega)
  obtain ⟨q0, q40, q41, q42, q43⟩ := s.no a (by omega) (by omega)
  obtain ⟨v44, v45, v43⟩ := s.dv d hd9.1 hd9.2
  obtain ⟨z, hz⟩ : ∃ z, z = fI h 43 (nd A (10 + d)) := ⟨_, rfl⟩
  have g13 := s.mi.b13 (10 * d + a)
  obtain ⟨j, rfl⟩ : ∃ j : Nat, a = j := ⟨a.toNat, (Int.toNat_of_nonneg ha.1).symm⟩
  have hbw := bw_and v43 j (by omega)
  refine x_aload_n C dX4_mayLink_0 rfl rfl ?_
  refine h_get4 (f := 3) C (by assumption) (by decide) u7_1 rfl rfl dX4_mayLink_1 ?_
  refine x_aload_n C dX4_mayLink_4 rfl rfl ?_
  refine x_callV C hR cb_X4_bit cv_X4_bit u7_2 (k_X4_bit hst s (by omega)) (h_recv (by assumption) (by decide)) ⟨_, _, rfl⟩ rfl (Nat.le_of_ble_eq_true rfl) rfl dX4_mayLink_5 (by decide) (by decide) (fun E x9 h9 => absurd h9.1 (by intro h; cases h)) (fun r9 x9 h9 => ?_)
  obtain ⟨e9, rfl⟩ := h9
  cases e9
  refine x_iand C dX4_mayLink_8 ?_
  refine x_if_ne (tgt := 16) C dX4_mayLink_9 (by decide) (by exact bOp_in _ _ _) (fun h9 => ?_) (fun h9 => ?_)
  ·
    refine x_iconst C dX4_mayLink_16 ?_
    refine x_iret (ty := .boolean) C hQ dX4_mayLink_17 rfl (by decide) (by decide) (by decide) ?_
    refine ⟨rv ?_, rfl⟩
    first
    | (have h9 := hbw.mp h9; exact (bi_t (by by_cases q : M 13 (10 * d + j) = 0; (exact q); (exact absurd ⟨by omega, by omega, by omega⟩ h9))).symm)
    | (refine (bi_f (fun q => h9 (hbw.mpr (fun w => ?_)))).symm; omega)
  ·
    refine x_iconst C dX4_mayLink_12 ?_
    refine x_goto (tgt := 17) C dX4_mayLink_13 (by decide) ?_
    refine x_iret (ty := .boolean) C hQ dX4_mayLink_17 rfl (by decide) (by decide) (by decide) ?_
    refine ⟨rv ?_, rfl⟩
    first
    | (have h9 := hbw.mp h9; exact (bi_t (by by_cases q : M 13 (10 * d + j) = 0; (exact q); (exact absurd ⟨by omega, by omega, by omega⟩ h9))).symm)
    | (refine (bi_f (fun q => h9 (hbw.mpr (fun w => ?_)))).symm; omega)

set_option maxRecDepth 100000 in
set_option maxHeartbeats 4000000 in
theorem k_X1_owner {l : Launch} {D : va_G} {cy : CY} (hst : l.stackTraces = false) {h : HS} {A : AD} {M : MS} {e : Int} (s : SP h A M) (he : 0 ≤ e ∧ e < M 2 0) : Ct l D cy yX1_owner (Cond.code yX1_owner cX1_owner 1 (some (.object "VisitorLoom$Node"))) 0 0 0 0 (RepH cy) [vr (some (ev A e))] h (fun r h' => r = .ok (some (vr (some (nd A (ndOf M e))))) ∧ h' = h) := by
  refine Ct.of1 (own := RX1) hst (by decide) rfl (Nat.le_of_ble_eq_true rfl) (cat1 (vr_cat _) (cat0)) ?_
  intro φ C hQ hn hR hl hD
  subst hl hD
  obtain ⟨e0, e10, e11, e12, e13, e14, e15, e16⟩ := s.ve e he.1 he.2
  obtain ⟨⟨m3a, m3b⟩, ⟨m4a, m4b⟩, ⟨m5a, m5b⟩, ⟨m6a, m6b⟩, ⟨m7a, m7b⟩, ⟨m8a, m8b⟩⟩ := s.mi.ev e he.1 he.2
  obtain ⟨d0, d40, d41, d42, d43⟩ := s.no (10 + M 4 e) (by omega) (by omega)
  obtain ⟨v44, v45, v43⟩ := s.dv (M 4 e) (by omega) (by omega)
  have hsk := s.mi.sk _ m4a m4b
  have g12 := s.mi.b12 (M 4 e)
  have hN := s.mi.n
  refine x_aload_n C dX1_owner_0 rfl rfl ?_
  refine h_get1 (f := 1) C (by assumption) (by decide) u5_9 rfl rfl dX1_owner_1 ?_
  try simp only [e10, e11, e12, e13, e14, e15, e16, v44, v45]
  refine h_get4 (f := 4) C (by assumption) (by decide) u6_20 rfl rfl dX1_owner_4 ?_
  try simp only [e10, e11, e12, e13, e14, e15, e16, v44, v45]
  refine x_if_eq (tgt := 24) C dX1_owner_7 (by decide) (by first | omega | exact bi_rng _) (fun h7 => ?_) (fun h7 => ?_)
  ·
    refine x_aload_n C dX1_owner_24 rfl rfl ?_
    refine h_get1 (f := 1) C (by assumption) (by decide) u5_9 rfl rfl dX1_owner_25 ?_
    try simp only [e10, e11, e12, e13, e14, e15, e16, v44, v45]
    refine x_aret C hQ dX1_owner_28 rfl (by decide) (by decide) ?_
    refine ⟨?_, rfl⟩
    simp only [ndOf]
    first
    | (rw [if_neg (by omega)])
    | (by_cases q : M 5 e = -1
       · (first | (rw [if_neg (by omega)]; done) | (rw [if_pos q] at h14; cases h14))
       · (first | (rw [if_neg q, if_pos ⟨by omega, q⟩]; done) | (rw [if_neg q] at h14; cases h14)))
  ·
    refine x_aload_n C dX1_owner_10 rfl rfl ?_
    refine h_get1 (f := 2) C (by assumption) (by decide) u5_10 rfl rfl dX1_owner_11 ?_
    try simp only [e10, e11, e12, e13, e14, e15, e16, v44, v45]
    refine x_ifnull (tgt := 24) C dX1_owner_14 (by decide) (fun h14 => ?_) (fun a14 h14 => ?_)
    ·
      refine x_aload_n C dX1_owner_24 rfl rfl ?_
      refine h_get1 (f := 1) C (by assumption) (by decide) u5_9 rfl rfl dX1_owner_25 ?_
      try simp only [e10, e11, e12, e13, e14, e15, e16, v44, v45]
      refine x_aret C hQ dX1_owner_28 rfl (by decide) (by decide) ?_
      refine ⟨?_, rfl⟩
      simp only [ndOf]
      first
      | (rw [if_neg (by omega)])
      | (by_cases q : M 5 e = -1
         · (first | (rw [if_neg (by omega)]; done) | (rw [if_pos q] at h14; cases h14))
         · (first | (rw [if_neg q, if_pos ⟨by omega, q⟩]; done) | (rw [if_neg q] at h14; cases h14)))
    ·
      refine x_aload_n C dX1_owner_17 rfl rfl ?_
      refine h_get1 (f := 2) C (by assumption) (by decide) u5_10 rfl rfl dX1_owner_18 ?_
      try simp only [e10, e11, e12, e13, e14, e15, e16, v44, v45]
      refine x_goto (tgt := 28) C dX1_owner_21 (by decide) ?_
      refine x_aret C hQ dX1_owner_28 rfl (by decide) (by decide) ?_
      refine ⟨?_, rfl⟩
      simp only [ndOf]
      first
      | (rw [if_neg (by omega)])
      | (by_cases q : M 5 e = -1
         · (first | (rw [if_neg (by omega)]; done) | (rw [if_pos q] at h14; cases h14))
         · (first | (rw [if_neg q, if_pos ⟨by omega, q⟩]; done) | (rw [if_neg q] at h14; cases h14)))

set_option maxRecDepth 100000 in
set_option maxHeartbeats 4000000 in
theorem k_X1_isOf {l : Launch} {D : va_G} {cy : CY} (hst : l.stackTraces = false) {h : HS} {A : AD} {M : MS} {e k : Int} {f : Int → Int} (s : SP h A M) (hf : LW h A f) (he : 0 ≤ e ∧ e < M 2 0) (hk : 0 ≤ k ∧ k < 20) : Ct l D cy yX1_isOf (Cond.code yX1_isOf cX1_isOf 2 (some .boolean)) 1 20 0 0 (RepH cy) [vr (some (ev A e)), vr (some (nd A k))] h (fun r h' => r = .ok (some (vi (bi (f (ndOf M e) = k)))) ∧ h' = h) := by
  refine Ct.of1 (own := RX1) hst (by decide) rfl (Nat.le_of_ble_eq_true rfl) (cat1 (vr_cat _) (cat1 (vr_cat _) (cat0))) ?_
  intro φ C hQ hn hR hl hD
  subst hl hD
  obtain ⟨e0, e10, e11, e12, e13, e14, e15, e16⟩ := s.ve e he.1 he.2
  obtain ⟨⟨m3a, m3b⟩, ⟨m4a, m4b⟩, ⟨m5a, m5b⟩, ⟨m6a, m6b⟩, ⟨m7a, m7b⟩, ⟨m8a, m8b⟩⟩ := s.mi.ev e he.1 he.2
  obtain ⟨d0, d40, d41, d42, d43⟩ := s.no (10 + M 4 e) (by omega) (by omega)
  obtain ⟨v44, v45, v43⟩ := s.dv (M 4 e) (by omega) (by omega)
  have hsk := s.mi.sk _ m4a m4b
  have g12 := s.mi.b12 (M 4 e)
  have hN := s.mi.n
  have hnd := ndOf_in s.mi he.1 he.2
  obtain ⟨w0, w40, w41, w42, w43⟩ := s.no (ndOf M e) hnd.1 hnd.2
  obtain ⟨l1, l2⟩ := hf (ndOf M e) hnd.1 hnd.2
  have hij := nd_inj s l2.1 l2.2 hk.1 hk.2
  refine x_aload_n C dX1_isOf_0 rfl rfl ?_
  refine x_callV C hR cb_X1_owner cv_X1_owner u11_6 (k_X1_owner hst s he) (h_recv (by assumption) (by decide)) ⟨_, _, rfl⟩ rfl (Nat.le_of_ble_eq_true rfl) rfl dX1_isOf_1 (by decide) (by decide) (fun E x9 h9 => absurd h9.1 (by intro h; cases h)) (fun r9 x9 h9 => ?_)
  obtain ⟨e9, rfl⟩ := h9
  cases e9
  refine x_callV C hR cb_X4_lowest cv_X4_lowest u11_10 (k_X4_lowest hst s hf (by omega)) (h_recv (by assumption) (by decide)) ⟨_, _, rfl⟩ rfl (Nat.le_of_ble_eq_true rfl) rfl dX1_isOf_4 (by decide) (by decide) (fun E x9 h9 => absurd h9.1 (by intro h; cases h)) (fun r9 x9 h9 => ?_)
  obtain ⟨e9, rfl⟩ := h9
  cases e9
  refine x_aload_n C dX1_isOf_7 rfl rfl ?_
  refine x_acmp_ne (tgt := 15) C dX1_isOf_8 (by decide) (fun h8 => ?_) (fun h8 => ?_)
  ·
    refine x_iconst C dX1_isOf_15 ?_
    refine x_iret (ty := .boolean) C hQ dX1_isOf_16 rfl (by decide) (by decide) (by decide) ?_
    first | exact ⟨rv (bi_f (fun q => h8 (by rw [q]))).symm, rfl⟩ | exact ⟨rv (bi_t (hij.mp (Option.some.inj h8))).symm, rfl⟩
  ·
    refine x_iconst C dX1_isOf_11 ?_
    refine x_goto (tgt := 16) C dX1_isOf_12 (by decide) ?_
    refine x_iret (ty := .boolean) C hQ dX1_isOf_16 rfl (by decide) (by decide) (by decide) ?_
    first | exact ⟨rv (bi_f (fun q => h8 (by rw [q]))).symm, rfl⟩ | exact ⟨rv (bi_t (hij.mp (Option.some.inj h8))).symm, rfl⟩

set_option maxRecDepth 100000 in
set_option maxHeartbeats 4000000 in
theorem k_X1_linkedAccount {l : Launch} {D : va_G} {cy : CY} (hst : l.stackTraces = false) {h : HS} {A : AD} {M : MS} {e : Int} (s : SP h A M) (he : 0 ≤ e ∧ e < M 2 0) : Ct l D cy yX1_linkedAccount (Cond.code yX1_linkedAccount cX1_linkedAccount 1 (some (.object "VisitorLoom$Node"))) 2 41 0 0 (RepH cy) [vr (some (ev A e))] h (fun r h' => r = .ok (some (vr (if lnk0 M e then some (nd A (M 5 e)) else none))) ∧ h' = h) := by
  refine Ct.of1 (own := RX1) hst (by decide) rfl (Nat.le_of_ble_eq_true rfl) (cat1 (vr_cat _) (cat0)) ?_
  intro φ C hQ hn hR hl hD
  subst hl hD
  obtain ⟨e0, e10, e11, e12, e13, e14, e15, e16⟩ := s.ve e he.1 he.2
  obtain ⟨⟨m3a, m3b⟩, ⟨m4a, m4b⟩, ⟨m5a, m5b⟩, ⟨m6a, m6b⟩, ⟨m7a, m7b⟩, ⟨m8a, m8b⟩⟩ := s.mi.ev e he.1 he.2
  obtain ⟨d0, d40, d41, d42, d43⟩ := s.no (10 + M 4 e) (by omega) (by omega)
  obtain ⟨v44, v45, v43⟩ := s.dv (M 4 e) (by omega) (by omega)
  have hsk := s.mi.sk _ m4a m4b
  have g12 := s.mi.b12 (M 4 e)
  have hN := s.mi.n
  have g13 := s.mi.b13 (10 * M 4 e + M 5 e)
  refine x_aload_n C dX1_linkedAccount_0 rfl rfl ?_
  refine h_get1 (f := 2) C (by assumption) (by decide) u5_10 rfl rfl dX1_linkedAccount_1 ?_
  try simp only [e10, e11, e12, e13, e14, e15, e16, v44, v45]
  refine x_ifnull (tgt := 38) C dX1_linkedAccount_4 (by decide) (fun h4 => ?_) (fun a4 h4 => ?_)
  ·
    refine x_null C dX1_linkedAccount_38 ?_
    refine x_aret C hQ dX1_linkedAccount_39 rfl (by decide) (by decide) ?_
    refine ⟨?_, rfl⟩
    first
    | (rw [if_neg (by omega)]; done)
    | (rw [if_pos (by omega)]; done)
    | (have q : M 5 e = -1 := by (by_cases q : M 5 e = -1; exact q; (rw [if_neg q] at h4; cases h4))
       rw [if_neg (fun w => w.1 q)])
  ·
    have q5 : ¬ M 5 e = -1 := fun q => by (rw [if_pos q] at h4; cases h4)
    rw [if_neg q5] at e12
    refine x_aload_n C dX1_linkedAccount_7 rfl rfl ?_
    refine h_get1 (f := 1) C (by assumption) (by decide) u5_9 rfl rfl dX1_linkedAccount_8 ?_
    try simp only [e10, e11, e12, e13, e14, e15, e16, v44, v45]
    refine h_get4 (f := 4) C (by assumption) (by decide) u6_20 rfl rfl dX1_linkedAccount_11 ?_
    try simp only [e10, e11, e12, e13, e14, e15, e16, v44, v45]
    refine x_if_ne (tgt := 38) C dX1_linkedAccount_14 (by decide) (by first | omega | exact bi_rng _) (fun h14 => ?_) (fun h14 => ?_)
    ·
      refine x_null C dX1_linkedAccount_38 ?_
      refine x_aret C hQ dX1_linkedAccount_39 rfl (by decide) (by decide) ?_
      refine ⟨?_, rfl⟩
      first
      | (rw [if_neg (by omega)]; done)
      | (rw [if_pos (by omega)]; done)
      | (have q : M 5 e = -1 := by (by_cases q : M 5 e = -1; exact q; (rw [if_neg q] at h4; cases h4))
         rw [if_neg (fun w => w.1 q)])
    ·
      refine x_aload_n C dX1_linkedAccount_17 rfl rfl ?_
      refine h_get1 (f := 1) C (by assumption) (by decide) u5_9 rfl rfl dX1_linkedAccount_18 ?_
      try simp only [e10, e11, e12, e13, e14, e15, e16, v44, v45]
      refine x_aload_n C dX1_linkedAccount_21 rfl rfl ?_
      refine h_get1 (f := 2) C (by assumption) (by decide) u5_10 rfl rfl dX1_linkedAccount_22 ?_
      try simp only [e10, e11, e12, e13, e14, e15, e16, v44, v45]
      refine x_callV C hR cb_X4_mayLink cv_X4_mayLink u6_21 (k_X4_mayLink hst s (by omega) (by omega)) (h_recv (by assumption) (by decide)) ⟨_, _, rfl⟩ rfl (Nat.le_of_ble_eq_true rfl) rfl dX1_linkedAccount_25 (by decide) (by decide) (fun E x9 h9 => absurd h9.1 (by intro h; cases h)) (fun r9 x9 h9 => ?_)
      obtain ⟨e9, rfl⟩ := h9
      cases e9
      refine x_if_eq (tgt := 38) C dX1_linkedAccount_28 (by decide) (by first | omega | exact bi_rng _) (fun h28 => ?_) (fun h28 => ?_)
      ·
        replace h28 := bi_eq0.mp h28
        refine x_null C dX1_linkedAccount_38 ?_
        refine x_aret C hQ dX1_linkedAccount_39 rfl (by decide) (by decide) ?_
        refine ⟨?_, rfl⟩
        first
        | (rw [if_neg (by omega)]; done)
        | (rw [if_pos (by omega)]; done)
        | (have q : M 5 e = -1 := by (by_cases q : M 5 e = -1; exact q; (rw [if_neg q] at h4; cases h4))
           rw [if_neg (fun w => w.1 q)])
      ·
        replace h28 := bi_ne0.mp h28
        refine x_aload_n C dX1_linkedAccount_31 rfl rfl ?_
        refine h_get1 (f := 2) C (by assumption) (by decide) u5_10 rfl rfl dX1_linkedAccount_32 ?_
        try simp only [e10, e11, e12, e13, e14, e15, e16, v44, v45]
        refine x_goto (tgt := 39) C dX1_linkedAccount_35 (by decide) ?_
        refine x_aret C hQ dX1_linkedAccount_39 rfl (by decide) (by decide) ?_
        refine ⟨?_, rfl⟩
        first
        | (rw [if_neg (by omega)]; done)
        | (rw [if_pos (by omega)]; done)
        | (have q : M 5 e = -1 := by (by_cases q : M 5 e = -1; exact q; (rw [if_neg q] at h4; cases h4))
           rw [if_neg (fun w => w.1 q)])

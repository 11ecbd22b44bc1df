/-! The law's methods over an event -/
set_option maxRecDepth 100000 in
set_option maxHeartbeats 400000 in
theorem k_L_time {l : Launch} {D : va_G} {cy : CY} (hst : l.stackTraces = false) {ba : Nat → Nat} {h : HS} {V M : MS} (hL : LR V M) (hM : MI M) (hN : M 2 0 ≤ 50) {k : Int} (hk : 0 ≤ k ∧ k < M 2 0) (h9 : M 9 k = 0) : Ct l D cy yL_time (Cond.code yL_time cL_time 4 (some .int)) 1 22 0 0 (LA cy ba) [vr (some (ba 0)), vr (some (ba 1)), vi k] (h, V) (fun r q' => r = .ok (some (vi (tmOf M k))) ∧ q' = (h, V)) := by
  refine Ct.of1 (own := RL) hst (by decide) rfl (Nat.le_of_ble_eq_true rfl) (cat1 (vr_cat _) (cat1 (vr_cat _) (cat1 (vi_cat _) (cat0)))) ?_
  intro φ C hQ hn hR hl hD
  subst hl hD
  obtain ⟨⟨b4, b5, b6, b7, b8⟩, -⟩ := hL.live hk h9
  have hw := (hL.2.1 (M 4 k) (by omega) (by omega)).1
  have hsk := hM.sk (M 4 k) (by omega) (by omega)
  refine x_aload_n C dL_time_0 rfl rfl ?_
  refine x_iload_n C dL_time_1 rfl rfl ?_
  refine x_iconst C dL_time_2 ?_
  refine x_callS C hR cb_L_part u3_21 u3_20 (kp4 hst hL hN (by omega) (by omega)) rfl (Nat.le_of_ble_eq_true rfl) rfl dL_time_3 (by decide) (by decide) (fun E x9 h9 => absurd h9.1 (by intro h; cases h)) (fun r9 x9 h9 => ?_)
  obtain ⟨e9, rfl⟩ := h9
  cases e9
  refine x_aload_n C dL_time_6 rfl rfl ?_
  refine x_aload_n C dL_time_7 rfl rfl ?_
  refine x_iload_n C dL_time_8 rfl rfl ?_
  refine x_iconst C dL_time_9 ?_
  refine x_callS C hR cb_L_part u3_21 u3_20 (kp0 hst hL hN (by omega) (by omega)) rfl (Nat.le_of_ble_eq_true rfl) rfl dL_time_10 (by decide) (by decide) (fun E x9 h9 => absurd h9.1 (by intro h; cases h)) (fun r9 x9 h9 => ?_)
  obtain ⟨e9, rfl⟩ := h9
  cases e9
  refine a_iald (f := 1) (N := 15) C rfl (by decide) (by first | omega | exact bi_rng _) dL_time_13 ?_
  refine x_isub C dL_time_14 ?_
  refine x_istore_n C dL_time_15 rfl (by rw [hn]; exact Nat.le_of_ble_eq_true rfl) ?_
  refine x_iload_n C dL_time_16 rfl rfl ?_
  refine x_if_ge (tgt := 24) C dL_time_17 (by decide) (by first | omega | exact bi_rng _) (fun h17 => ?_) (fun h17 => ?_)
  ·
    refine x_iload_n C dL_time_24 rfl rfl ?_
    refine x_iret (ty := .int) C hQ dL_time_25 rfl rfl (by decide) (by decide) ?_
    exact ⟨rv (by simp only [tmOf]; split <;> omega), rfl⟩
  ·
    refine x_iconst C dL_time_20 ?_
    refine x_goto (tgt := 25) C dL_time_21 (by decide) ?_
    refine x_iret (ty := .int) C hQ dL_time_25 rfl rfl (by decide) (by decide) ?_
    exact ⟨rv (by simp only [tmOf]; split <;> omega), rfl⟩

set_option maxRecDepth 100000 in
set_option maxHeartbeats 400000 in
theorem k_L_isAhead {l : Launch} {D : va_G} {cy : CY} (hst : l.stackTraces = false) {ba : Nat → Nat} {h : HS} {V M : MS} (hL : LR V M) (hM : MI M) (hN : M 2 0 ≤ 50) {k i : Int} (hk : 0 ≤ k ∧ k < M 2 0) (h9 : M 9 k = 0) (hi : 0 ≤ i ∧ i < M 2 0) (h9i : M 9 i = 0) : Ct l D cy yL_isAhead (Cond.code yL_isAhead cL_isAhead 4 (some .boolean)) 2 45 0 0 (LA cy ba) [vr (some (ba 0)), vr (some (ba 1)), vi k, vi i] (h, V) (fun r q' => r = .ok (some (vi (bi (ahd M k i)))) ∧ q' = (h, V)) := by
  refine Ct.of1 (own := RL) hst (by decide) rfl (Nat.le_of_ble_eq_true rfl) (cat1 (vr_cat _) (cat1 (vr_cat _) (cat1 (vi_cat _) (cat1 (vi_cat _) (cat0))))) ?_
  intro φ C hQ hn hR hl hD
  subst hl hD
  have t1 := tmOf_in hM hk.1 hk.2
  have t2 := tmOf_in hM hi.1 hi.2
  refine x_aload_n C dL_isAhead_0 rfl rfl ?_
  refine x_aload_n C dL_isAhead_1 rfl rfl ?_
  refine x_iload_n C dL_isAhead_2 rfl rfl ?_
  refine x_callS C hR cb_L_time u12_10 u12_9 (k_L_time hst hL hM hN (by omega) (by omega)) rfl (Nat.le_of_ble_eq_true rfl) rfl dL_isAhead_3 (by decide) (by decide) (fun E x9 h9 => absurd h9.1 (by intro h; cases h)) (fun r9 x9 h9 => ?_)
  obtain ⟨e9, rfl⟩ := h9
  cases e9
  refine x_aload_n C dL_isAhead_6 rfl rfl ?_
  refine x_aload_n C dL_isAhead_7 rfl rfl ?_
  refine x_iload_n C dL_isAhead_8 rfl rfl ?_
  refine x_callS C hR cb_L_time u12_10 u12_9 (k_L_time hst hL hM hN (by omega) (by omega)) rfl (Nat.le_of_ble_eq_true rfl) rfl dL_isAhead_9 (by decide) (by decide) (fun E x9 h9 => absurd h9.1 (by intro h; cases h)) (fun r9 x9 h9 => ?_)
  obtain ⟨e9, rfl⟩ := h9
  cases e9
  refine x_icmp_lt (tgt := 35) C dL_isAhead_12 (by decide) (by first | omega | exact bi_rng _) (by first | omega | exact bi_rng _) (fun h12 => ?_) (fun h12 => ?_)
  ·
    refine x_iconst C dL_isAhead_35 ?_
    refine x_goto (tgt := 40) C dL_isAhead_36 (by decide) ?_
    refine x_iret (ty := .boolean) C hQ dL_isAhead_40 rfl (by decide) (by decide) (by decide) ?_
    exact ⟨rv (by simp only [bi]; split <;> omega), rfl⟩
  ·
    refine x_aload_n C dL_isAhead_15 rfl rfl ?_
    refine x_aload_n C dL_isAhead_16 rfl rfl ?_
    refine x_iload_n C dL_isAhead_17 rfl rfl ?_
    refine x_callS C hR cb_L_time u12_10 u12_9 (k_L_time hst hL hM hN (by omega) (by omega)) rfl (Nat.le_of_ble_eq_true rfl) rfl dL_isAhead_18 (by decide) (by decide) (fun E x9 h9 => absurd h9.1 (by intro h; cases h)) (fun r9 x9 h9 => ?_)
    obtain ⟨e9, rfl⟩ := h9
    cases e9
    refine x_aload_n C dL_isAhead_21 rfl rfl ?_
    refine x_aload_n C dL_isAhead_22 rfl rfl ?_
    refine x_iload_n C dL_isAhead_23 rfl rfl ?_
    refine x_callS C hR cb_L_time u12_10 u12_9 (k_L_time hst hL hM hN (by omega) (by omega)) rfl (Nat.le_of_ble_eq_true rfl) rfl dL_isAhead_24 (by decide) (by decide) (fun E x9 h9 => absurd h9.1 (by intro h; cases h)) (fun r9 x9 h9 => ?_)
    obtain ⟨e9, rfl⟩ := h9
    cases e9
    refine x_icmp_ne (tgt := 39) C dL_isAhead_27 (by decide) (by first | omega | exact bi_rng _) (by first | omega | exact bi_rng _) (fun h27 => ?_) (fun h27 => ?_)
    ·
      refine x_iconst C dL_isAhead_39 ?_
      refine x_iret (ty := .boolean) C hQ dL_isAhead_40 rfl (by decide) (by decide) (by decide) ?_
      exact ⟨rv (by simp only [bi]; split <;> omega), rfl⟩
    ·
      refine x_iload_n C dL_isAhead_30 rfl rfl ?_
      refine x_iload_n C dL_isAhead_31 rfl rfl ?_
      refine x_icmp_ge (tgt := 39) C dL_isAhead_32 (by decide) (by first | omega | exact bi_rng _) (by first | omega | exact bi_rng _) (fun h32 => ?_) (fun h32 => ?_)
      ·
        refine x_iconst C dL_isAhead_39 ?_
        refine x_iret (ty := .boolean) C hQ dL_isAhead_40 rfl (by decide) (by decide) (by decide) ?_
        exact ⟨rv (by simp only [bi]; split <;> omega), rfl⟩
      ·
        refine x_iconst C dL_isAhead_35 ?_
        refine x_goto (tgt := 40) C dL_isAhead_36 (by decide) ?_
        refine x_iret (ty := .boolean) C hQ dL_isAhead_40 rfl (by decide) (by decide) (by decide) ?_
        exact ⟨rv (by simp only [bi]; split <;> omega), rfl⟩

set_option maxRecDepth 100000 in
set_option maxHeartbeats 400000 in
theorem k_L_belongs {l : Launch} {D : va_G} {cy : CY} (hst : l.stackTraces = false) {ba : Nat → Nat} {h : HS} {V M : MS} (hL : LR V M) (hM : MI M) (hN : M 2 0 ≤ 50) {k node : Int} (hP : ∀ i, 0 ≤ i → i < 6 → V 2 i = M 27 (nn i)) (hk : 0 ≤ k ∧ k < M 2 0) (hnode : 0 ≤ node ∧ node < 6) : Ct l D cy yL_belongs (Cond.code yL_belongs cL_belongs 7 (some .boolean)) 1 22 0 0 (LA cy ba) [vr (some (ba 0)), vr (some (ba 1)), vr (some (ba 2)), vi k, vi node] (h, V) (fun r q' => r = .ok (some (vi (bi (blg M k (nn node))))) ∧ q' = (h, V)) := by
  refine Ct.of1 (own := RL) hst (by decide) rfl (Nat.le_of_ble_eq_true rfl) (cat1 (vr_cat _) (cat1 (vr_cat _) (cat1 (vr_cat _) (cat1 (vi_cat _) (cat1 (vi_cat _) (cat0)))))) ?_
  intro φ C hQ hn hR hl hD
  subst hl hD
  have h01 := hM.b9 k
  obtain ⟨⟨b4, b5, b6, b7, b8⟩, -⟩ := hL.1 k hk.1 hk.2
  have hw := (hL.2.1 (M 4 k) (by omega) (by omega)).2.1
  have g12 := hM.b12 (M 4 k)
  have hnd := ndOf_in hM hk.1 hk.2
  have hl1 := hM.low _ hnd.1 hnd.2
  have hl2 := hM.low _ (nn_in hnode).1 (nn_in hnode).2
  have f1 : ¬ M 12 (M 4 k) = 0 ∧ ¬ M 5 k = -1 → V 2 (M 5 k) = M 27 (ndOf M k) := fun q => by rw [ndw q, hP _ (by omega) (by omega), nn_lo (by omega)]
  have f2 : ¬ (¬ M 12 (M 4 k) = 0 ∧ ¬ M 5 k = -1) → V 2 (3 + M 4 k) = M 27 (ndOf M k) := fun q => by rw [ndn q, hP _ (by omega) (by omega), nn_hi (by omega)]; congr 1; omega
  have f3 := hP node hnode.1 hnode.2
  refine x_aload_n C dL_belongs_0 rfl rfl ?_
  refine x_iload_n C dL_belongs_1 rfl rfl ?_
  refine x_callS C hR cb_L_isGone u3_18 u3_17 (kg hst hL hN (by omega)) rfl (Nat.le_of_ble_eq_true rfl) rfl dL_belongs_2 (by decide) (by decide) (fun E x9 h9 => absurd h9.1 (by intro h; cases h)) (fun r9 x9 h9 => ?_)
  obtain ⟨e9, rfl⟩ := h9
  cases e9
  refine x_if_eq (tgt := 10) C dL_belongs_5 (by decide) (by first | omega | exact bi_rng _) (fun h5 => ?_) (fun h5 => ?_)
  ·
    replace h5 := bi_eq0.mp h5
    refine x_aload_n C dL_belongs_10 rfl rfl ?_
    refine x_iload_n C dL_belongs_11 rfl rfl ?_
    refine x_iconst C dL_belongs_12 ?_
    refine x_callS C hR cb_L_part u3_21 u3_20 (kp1 hst hL hN (by omega) (by omega)) rfl (Nat.le_of_ble_eq_true rfl) rfl dL_belongs_13 (by decide) (by decide) (fun E x9 h9 => absurd h9.1 (by intro h; cases h)) (fun r9 x9 h9 => ?_)
    obtain ⟨e9, rfl⟩ := h9
    cases e9
    refine x_istore C dL_belongs_16 (by rw [hn]; exact Nat.le_of_ble_eq_true rfl) ?_
    refine x_aload_n C dL_belongs_18 rfl rfl ?_
    refine x_iload_n C dL_belongs_19 rfl rfl ?_
    refine x_iconst C dL_belongs_20 ?_
    refine x_callS C hR cb_L_part u3_21 u3_20 (kp0 hst hL hN (by omega) (by omega)) rfl (Nat.le_of_ble_eq_true rfl) rfl dL_belongs_21 (by decide) (by decide) (fun E x9 h9 => absurd h9.1 (by intro h; cases h)) (fun r9 x9 h9 => ?_)
    obtain ⟨e9, rfl⟩ := h9
    cases e9
    refine x_istore C dL_belongs_24 (by rw [hn]; exact Nat.le_of_ble_eq_true rfl) ?_
    refine x_aload_n C dL_belongs_26 rfl rfl ?_
    refine x_aload_n C dL_belongs_27 rfl rfl ?_
    refine x_iconst C dL_belongs_28 ?_
    refine x_iload C dL_belongs_29 rfl ?_
    refine x_iadd C dL_belongs_31 ?_
    refine a_iald (f := 1) (N := 15) C rfl (by decide) (by first | omega | exact bi_rng _) dL_belongs_32 ?_
    refine x_iconst C dL_belongs_33 ?_
    refine x_icmp_ne (tgt := 47) C dL_belongs_34 (by decide) (by first | omega | exact bi_rng _) (by first | omega | exact bi_rng _) (fun h34 => ?_) (fun h34 => ?_)
    ·
      refine x_iconst C dL_belongs_47 ?_
      refine x_iload C dL_belongs_48 rfl ?_
      refine x_iadd C dL_belongs_50 ?_
      refine a_iald (f := 2) (N := 6) C rfl (by decide) (by first | omega | exact bi_rng _) dL_belongs_51 ?_
      refine x_aload_n C dL_belongs_52 rfl rfl ?_
      refine x_iload C dL_belongs_53 rfl ?_
      refine a_iald (f := 2) (N := 6) C rfl (by decide) (by first | omega | exact bi_rng _) dL_belongs_55 ?_
      refine x_icmp_ne (tgt := 63) C dL_belongs_56 (by decide) (by first | omega | exact bi_rng _) (by first | omega | exact bi_rng _) (fun h56 => ?_) (fun h56 => ?_)
      ·
        refine x_iconst C dL_belongs_63 ?_
        refine x_iret (ty := .boolean) C hQ dL_belongs_64 rfl (by decide) (by decide) (by decide) ?_
        exact ⟨rv (by simp only [bi]; split <;> omega), rfl⟩
      ·
        refine x_iconst C dL_belongs_59 ?_
        refine x_goto (tgt := 64) C dL_belongs_60 (by decide) ?_
        refine x_iret (ty := .boolean) C hQ dL_belongs_64 rfl (by decide) (by decide) (by decide) ?_
        exact ⟨rv (by simp only [bi]; split <;> omega), rfl⟩
    ·
      refine x_iload C dL_belongs_37 rfl ?_
      refine x_if_lt (tgt := 47) C dL_belongs_39 (by decide) (by first | omega | exact bi_rng _) (fun h39 => ?_) (fun h39 => ?_)
      ·
        refine x_iconst C dL_belongs_47 ?_
        refine x_iload C dL_belongs_48 rfl ?_
        refine x_iadd C dL_belongs_50 ?_
        refine a_iald (f := 2) (N := 6) C rfl (by decide) (by first | omega | exact bi_rng _) dL_belongs_51 ?_
        refine x_aload_n C dL_belongs_52 rfl rfl ?_
        refine x_iload C dL_belongs_53 rfl ?_
        refine a_iald (f := 2) (N := 6) C rfl (by decide) (by first | omega | exact bi_rng _) dL_belongs_55 ?_
        refine x_icmp_ne (tgt := 63) C dL_belongs_56 (by decide) (by first | omega | exact bi_rng _) (by first | omega | exact bi_rng _) (fun h56 => ?_) (fun h56 => ?_)
        ·
          refine x_iconst C dL_belongs_63 ?_
          refine x_iret (ty := .boolean) C hQ dL_belongs_64 rfl (by decide) (by decide) (by decide) ?_
          exact ⟨rv (by simp only [bi]; split <;> omega), rfl⟩
        ·
          refine x_iconst C dL_belongs_59 ?_
          refine x_goto (tgt := 64) C dL_belongs_60 (by decide) ?_
          refine x_iret (ty := .boolean) C hQ dL_belongs_64 rfl (by decide) (by decide) (by decide) ?_
          exact ⟨rv (by simp only [bi]; split <;> omega), rfl⟩
      ·
        refine x_iload C dL_belongs_42 rfl ?_
        refine x_goto (tgt := 51) C dL_belongs_44 (by decide) ?_
        refine a_iald (f := 2) (N := 6) C rfl (by decide) (by first | omega | exact bi_rng _) dL_belongs_51 ?_
        refine x_aload_n C dL_belongs_52 rfl rfl ?_
        refine x_iload C dL_belongs_53 rfl ?_
        refine a_iald (f := 2) (N := 6) C rfl (by decide) (by first | omega | exact bi_rng _) dL_belongs_55 ?_
        refine x_icmp_ne (tgt := 63) C dL_belongs_56 (by decide) (by first | omega | exact bi_rng _) (by first | omega | exact bi_rng _) (fun h56 => ?_) (fun h56 => ?_)
        ·
          refine x_iconst C dL_belongs_63 ?_
          refine x_iret (ty := .boolean) C hQ dL_belongs_64 rfl (by decide) (by decide) (by decide) ?_
          exact ⟨rv (by simp only [bi]; split <;> omega), rfl⟩
        ·
          refine x_iconst C dL_belongs_59 ?_
          refine x_goto (tgt := 64) C dL_belongs_60 (by decide) ?_
          refine x_iret (ty := .boolean) C hQ dL_belongs_64 rfl (by decide) (by decide) (by decide) ?_
          exact ⟨rv (by simp only [bi]; split <;> omega), rfl⟩
  ·
    replace h5 := bi_ne0.mp h5
    refine x_iconst C dL_belongs_8 ?_
    refine x_iret (ty := .boolean) C hQ dL_belongs_9 rfl (by decide) (by decide) (by decide) ?_
    exact ⟨rv (by simp only [bi]; split <;> omega), rfl⟩

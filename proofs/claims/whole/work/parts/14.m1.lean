/-! The reference's small methods -/
set_option maxRecDepth 100000 in
set_option maxHeartbeats 4000000 in
theorem k_X7_isIn {l : Launch} {D : va_G} {cy : CY} (hst : l.stackTraces = false) {b : Nat → Nat} {t : Int} {M : MS} {a lo hi : Int} (ha : -2147483648 ≤ a ∧ a ≤ 2147483647) (hlo : -2147483648 ≤ lo ∧ lo ≤ 2147483647) (hhi : -2147483648 ≤ hi ∧ hi ≤ 2147483647) : Ct l D cy yX7_isIn (Cond.code yX7_isIn cX7_isIn 3 (some .boolean)) 0 0 0 0 (IM cy b) [vi a, vi lo, vi hi] (t, M) (fun r q' => r = .ok (some (vi (bi (lo ≤ a ∧ a ≤ hi)))) ∧ q' = (t, M)) := by
  refine Ct.of1 (own := RX7) hst (by decide) rfl (Nat.le_of_ble_eq_true rfl) (cat1 (vi_cat _) (cat1 (vi_cat _) (cat1 (vi_cat _) (cat0)))) ?_
  intro φ C hQ hn hR hl hD
  subst hl hD
  refine x_iload_n C dX7_isIn_0 rfl rfl ?_
  refine x_iload_n C dX7_isIn_1 rfl rfl ?_
  refine x_icmp_lt (tgt := 14) C dX7_isIn_2 (by decide) (by first | omega | exact bi_rng _) (by first | omega | exact bi_rng _) (fun h2 => ?_) (fun h2 => ?_)
  ·
    refine x_iconst C dX7_isIn_14 ?_
    refine x_iret (ty := .boolean) C hQ dX7_isIn_15 rfl (by decide) (by decide) (by decide) ?_
    exact ⟨rv (by simp only [bi]; split <;> omega), rfl⟩
  ·
    refine x_iload_n C dX7_isIn_5 rfl rfl ?_
    refine x_iload_n C dX7_isIn_6 rfl rfl ?_
    refine x_icmp_gt (tgt := 14) C dX7_isIn_7 (by decide) (by first | omega | exact bi_rng _) (by first | omega | exact bi_rng _) (fun h7 => ?_) (fun h7 => ?_)
    ·
      refine x_iconst C dX7_isIn_14 ?_
      refine x_iret (ty := .boolean) C hQ dX7_isIn_15 rfl (by decide) (by decide) (by decide) ?_
      exact ⟨rv (by simp only [bi]; split <;> omega), rfl⟩
    ·
      refine x_iconst C dX7_isIn_10 ?_
      refine x_goto (tgt := 15) C dX7_isIn_11 (by decide) ?_
      refine x_iret (ty := .boolean) C hQ dX7_isIn_15 rfl (by decide) (by decide) (by decide) ?_
      exact ⟨rv (by simp only [bi]; split <;> omega), rfl⟩

set_option maxRecDepth 100000 in
set_option maxHeartbeats 4000000 in
theorem k_X7_thrown {l : Launch} {D : va_G} {cy : CY} (hst : l.stackTraces = false) {b : Nat → Nat} {t : Int} {M : MS}   : Ct l D cy yX7_thrown (Cond.code yX7_thrown cX7_thrown 1 (some .int)) 0 0 0 0 (IM cy b) [vr (some (b 0))] (t, M) (fun r q' => r = .ok (some (vi t)) ∧ q' = (t, M)) := by
  refine Ct.of1 (own := RX7) hst (by decide) rfl (Nat.le_of_ble_eq_true rfl) (cat1 (vr_cat _) (cat0)) ?_
  intro φ C hQ hn hR hl hD
  subst hl hD
  refine x_aload_n C dX7_thrown_0 rfl rfl ?_
  refine m_get (f := 0) C (by decide) u7_8 rfl rfl dX7_thrown_1 ?_
  refine x_iret (ty := .int) C hQ dX7_thrown_4 rfl rfl (by decide) (by decide) ?_
  exact ⟨rfl, rfl⟩

set_option maxRecDepth 100000 in
set_option maxHeartbeats 4000000 in
theorem k_X7_timeOf {l : Launch} {D : va_G} {cy : CY} (hst : l.stackTraces = false) {b : Nat → Nat} {t : Int} {M : MS} {e : Int} (hM : MI M) (he : 0 ≤ e ∧ e < M 2 0) : Ct l D cy yX7_timeOf (Cond.code yX7_timeOf cX7_timeOf 3 (some .int)) 0 0 0 0 (IM cy b) [vr (some (b 0)), vi e] (t, M) (fun r q' => r = .ok (some (vi (tmOf M e))) ∧ q' = (t, M)) := by
  refine Ct.of1 (own := RX7) hst (by decide) rfl (Nat.le_of_ble_eq_true rfl) (cat1 (vr_cat _) (cat1 (vi_cat _) (cat0))) ?_
  intro φ C hQ hn hR hl hD
  subst hl hD
  obtain ⟨⟨e3a, e3b⟩, ⟨e4a, e4b⟩, ⟨e5a, e5b⟩, ⟨e6a, e6b⟩, ⟨e7a, e7b⟩, ⟨e8a, e8b⟩⟩ := hM.ev e he.1 he.2
  have hN := hM.n
  have hsk := hM.sk _ e4a e4b
  have g9 := hM.b9 e
  have g12 := hM.b12 (M 4 e)
  have g13 := hM.b13 (10 * M 4 e + M 5 e)
  refine x_aload_n C dX7_timeOf_0 rfl rfl ?_
  refine m_get (f := 8) C (by decide) u2_5 rfl rfl dX7_timeOf_1 ?_
  refine x_iload_n C dX7_timeOf_4 rfl rfl ?_
  refine m_iald (f := 8) (q0 := 6) (N := 200) C rfl (by decide) (by first | omega | exact bi_rng _) dX7_timeOf_5 ?_
  refine x_aload_n C dX7_timeOf_6 rfl rfl ?_
  refine m_get (f := 11) C (by decide) u2_8 rfl rfl dX7_timeOf_7 ?_
  refine x_aload_n C dX7_timeOf_10 rfl rfl ?_
  refine m_get (f := 4) C (by decide) u2_1 rfl rfl dX7_timeOf_11 ?_
  refine x_iload_n C dX7_timeOf_14 rfl rfl ?_
  refine m_iald (f := 4) (q0 := 2) (N := 200) C rfl (by decide) (by first | omega | exact bi_rng _) dX7_timeOf_15 ?_
  refine m_iald (f := 11) (q0 := 9) (N := 10) C rfl (by decide) (by first | omega | exact bi_rng _) dX7_timeOf_16 ?_
  refine x_isub C dX7_timeOf_17 ?_
  refine x_istore_n C dX7_timeOf_18 rfl (by rw [hn]; exact Nat.le_of_ble_eq_true rfl) ?_
  refine x_iload_n C dX7_timeOf_19 rfl rfl ?_
  refine x_if_ge (tgt := 27) C dX7_timeOf_20 (by decide) (by first | omega | exact bi_rng _) (fun h20 => ?_) (fun h20 => ?_)
  ·
    refine x_iload_n C dX7_timeOf_27 rfl rfl ?_
    refine x_iret (ty := .int) C hQ dX7_timeOf_28 rfl rfl (by decide) (by decide) ?_
    exact ⟨rv (by simp only [tmOf]; split <;> omega), rfl⟩
  ·
    refine x_iconst C dX7_timeOf_23 ?_
    refine x_goto (tgt := 28) C dX7_timeOf_24 (by decide) ?_
    refine x_iret (ty := .int) C hQ dX7_timeOf_28 rfl rfl (by decide) (by decide) ?_
    exact ⟨rv (by simp only [tmOf]; split <;> omega), rfl⟩

set_option maxRecDepth 100000 in
set_option maxHeartbeats 4000000 in
theorem k_X7_links {l : Launch} {D : va_G} {cy : CY} (hst : l.stackTraces = false) {b : Nat → Nat} {t : Int} {M : MS} {e : Int} (hM : MI M) (he : 0 ≤ e ∧ e < M 2 0) : Ct l D cy yX7_links (Cond.code yX7_links cX7_links 2 (some .boolean)) 0 0 0 0 (IM cy b) [vr (some (b 0)), vi e] (t, M) (fun r q' => r = .ok (some (vi (bi (lnk M e)))) ∧ q' = (t, M)) := by
  refine Ct.of1 (own := RX7) hst (by decide) rfl (Nat.le_of_ble_eq_true rfl) (cat1 (vr_cat _) (cat1 (vi_cat _) (cat0))) ?_
  intro φ C hQ hn hR hl hD
  subst hl hD
  obtain ⟨⟨e3a, e3b⟩, ⟨e4a, e4b⟩, ⟨e5a, e5b⟩, ⟨e6a, e6b⟩, ⟨e7a, e7b⟩, ⟨e8a, e8b⟩⟩ := hM.ev e he.1 he.2
  have hN := hM.n
  have hsk := hM.sk _ e4a e4b
  have g9 := hM.b9 e
  have g12 := hM.b12 (M 4 e)
  have g13 := hM.b13 (10 * M 4 e + M 5 e)
  refine x_aload_n C dX7_links_0 rfl rfl ?_
  refine m_get (f := 9) C (by decide) u2_6 rfl rfl dX7_links_1 ?_
  refine x_iload_n C dX7_links_4 rfl rfl ?_
  refine m_zald (f := 9) (q0 := 7) (N := 200) C rfl (by decide) (by first | omega | exact bi_rng _) dX7_links_5 ?_
  refine x_if_ne (tgt := 61) C dX7_links_6 (by decide) (by first | omega | exact bi_rng _) (fun h6 => ?_) (fun h6 => ?_)
  ·
    refine x_iconst C dX7_links_61 ?_
    refine x_iret (ty := .boolean) C hQ dX7_links_62 rfl (by decide) (by decide) (by decide) ?_
    exact ⟨rv (by simp only [bi]; split <;> omega), rfl⟩
  ·
    refine x_aload_n C dX7_links_9 rfl rfl ?_
    refine m_get (f := 5) C (by decide) u2_2 rfl rfl dX7_links_10 ?_
    refine x_iload_n C dX7_links_13 rfl rfl ?_
    refine m_iald (f := 5) (q0 := 3) (N := 200) C rfl (by decide) (by first | omega | exact bi_rng _) dX7_links_14 ?_
    refine x_iconst C dX7_links_15 ?_
    refine x_icmp_eq (tgt := 61) C dX7_links_16 (by decide) (by first | omega | exact bi_rng _) (by first | omega | exact bi_rng _) (fun h16 => ?_) (fun h16 => ?_)
    ·
      refine x_iconst C dX7_links_61 ?_
      refine x_iret (ty := .boolean) C hQ dX7_links_62 rfl (by decide) (by decide) (by decide) ?_
      exact ⟨rv (by simp only [bi]; split <;> omega), rfl⟩
    ·
      refine x_aload_n C dX7_links_19 rfl rfl ?_
      refine m_get (f := 12) C (by decide) u2_9 rfl rfl dX7_links_20 ?_
      refine x_aload_n C dX7_links_23 rfl rfl ?_
      refine m_get (f := 4) C (by decide) u2_1 rfl rfl dX7_links_24 ?_
      refine x_iload_n C dX7_links_27 rfl rfl ?_
      refine m_iald (f := 4) (q0 := 2) (N := 200) C rfl (by decide) (by first | omega | exact bi_rng _) dX7_links_28 ?_
      refine m_zald (f := 12) (q0 := 10) (N := 10) C rfl (by decide) (by first | omega | exact bi_rng _) dX7_links_29 ?_
      refine x_if_ne (tgt := 61) C dX7_links_30 (by decide) (by first | omega | exact bi_rng _) (fun h30 => ?_) (fun h30 => ?_)
      ·
        refine x_iconst C dX7_links_61 ?_
        refine x_iret (ty := .boolean) C hQ dX7_links_62 rfl (by decide) (by decide) (by decide) ?_
        exact ⟨rv (by simp only [bi]; split <;> omega), rfl⟩
      ·
        refine x_aload_n C dX7_links_33 rfl rfl ?_
        refine m_get (f := 13) C (by decide) u2_10 rfl rfl dX7_links_34 ?_
        refine x_bipush C dX7_links_37 (by decide) ?_
        refine x_aload_n C dX7_links_39 rfl rfl ?_
        refine m_get (f := 4) C (by decide) u2_1 rfl rfl dX7_links_40 ?_
        refine x_iload_n C dX7_links_43 rfl rfl ?_
        refine m_iald (f := 4) (q0 := 2) (N := 200) C rfl (by decide) (by first | omega | exact bi_rng _) dX7_links_44 ?_
        refine x_imul C dX7_links_45 ?_
        refine x_aload_n C dX7_links_46 rfl rfl ?_
        refine m_get (f := 5) C (by decide) u2_2 rfl rfl dX7_links_47 ?_
        refine x_iload_n C dX7_links_50 rfl rfl ?_
        refine m_iald (f := 5) (q0 := 3) (N := 200) C rfl (by decide) (by first | omega | exact bi_rng _) dX7_links_51 ?_
        refine x_iadd C dX7_links_52 ?_
        refine m_zald (f := 13) (q0 := 11) (N := 100) C rfl (by decide) (by first | omega | exact bi_rng _) dX7_links_53 ?_
        refine x_if_ne (tgt := 61) C dX7_links_54 (by decide) (by first | omega | exact bi_rng _) (fun h54 => ?_) (fun h54 => ?_)
        ·
          refine x_iconst C dX7_links_61 ?_
          refine x_iret (ty := .boolean) C hQ dX7_links_62 rfl (by decide) (by decide) (by decide) ?_
          exact ⟨rv (by simp only [bi]; split <;> omega), rfl⟩
        ·
          refine x_iconst C dX7_links_57 ?_
          refine x_goto (tgt := 62) C dX7_links_58 (by decide) ?_
          refine x_iret (ty := .boolean) C hQ dX7_links_62 rfl (by decide) (by decide) (by decide) ?_
          exact ⟨rv (by simp only [bi]; split <;> omega), rfl⟩

set_option maxRecDepth 100000 in
set_option maxHeartbeats 4000000 in
theorem k_X7_nodeOf {l : Launch} {D : va_G} {cy : CY} (hst : l.stackTraces = false) {b : Nat → Nat} {t : Int} {M : MS} {e : Int} (hM : MI M) (he : 0 ≤ e ∧ e < M 2 0) : Ct l D cy yX7_nodeOf (Cond.code yX7_nodeOf cX7_nodeOf 2 (some .int)) 0 0 0 0 (IM cy b) [vr (some (b 0)), vi e] (t, M) (fun r q' => r = .ok (some (vi (ndOf M e))) ∧ q' = (t, M)) := by
  refine Ct.of1 (own := RX7) hst (by decide) rfl (Nat.le_of_ble_eq_true rfl) (cat1 (vr_cat _) (cat1 (vi_cat _) (cat0))) ?_
  intro φ C hQ hn hR hl hD
  subst hl hD
  obtain ⟨⟨e3a, e3b⟩, ⟨e4a, e4b⟩, ⟨e5a, e5b⟩, ⟨e6a, e6b⟩, ⟨e7a, e7b⟩, ⟨e8a, e8b⟩⟩ := hM.ev e he.1 he.2
  have hN := hM.n
  have hsk := hM.sk _ e4a e4b
  have g9 := hM.b9 e
  have g12 := hM.b12 (M 4 e)
  have g13 := hM.b13 (10 * M 4 e + M 5 e)
  refine x_aload_n C dX7_nodeOf_0 rfl rfl ?_
  refine m_get (f := 12) C (by decide) u2_9 rfl rfl dX7_nodeOf_1 ?_
  refine x_aload_n C dX7_nodeOf_4 rfl rfl ?_
  refine m_get (f := 4) C (by decide) u2_1 rfl rfl dX7_nodeOf_5 ?_
  refine x_iload_n C dX7_nodeOf_8 rfl rfl ?_
  refine m_iald (f := 4) (q0 := 2) (N := 200) C rfl (by decide) (by first | omega | exact bi_rng _) dX7_nodeOf_9 ?_
  refine m_zald (f := 12) (q0 := 10) (N := 10) C rfl (by decide) (by first | omega | exact bi_rng _) dX7_nodeOf_10 ?_
  refine x_if_eq (tgt := 33) C dX7_nodeOf_11 (by decide) (by first | omega | exact bi_rng _) (fun h11 => ?_) (fun h11 => ?_)
  ·
    refine x_bipush C dX7_nodeOf_33 (by decide) ?_
    refine x_aload_n C dX7_nodeOf_35 rfl rfl ?_
    refine m_get (f := 4) C (by decide) u2_1 rfl rfl dX7_nodeOf_36 ?_
    refine x_iload_n C dX7_nodeOf_39 rfl rfl ?_
    refine m_iald (f := 4) (q0 := 2) (N := 200) C rfl (by decide) (by first | omega | exact bi_rng _) dX7_nodeOf_40 ?_
    refine x_iadd C dX7_nodeOf_41 ?_
    refine x_iret (ty := .int) C hQ dX7_nodeOf_42 rfl rfl (by decide) (by decide) ?_
    exact ⟨rv (by simp only [ndOf]; split <;> omega), rfl⟩
  ·
    refine x_aload_n C dX7_nodeOf_14 rfl rfl ?_
    refine m_get (f := 5) C (by decide) u2_2 rfl rfl dX7_nodeOf_15 ?_
    refine x_iload_n C dX7_nodeOf_18 rfl rfl ?_
    refine m_iald (f := 5) (q0 := 3) (N := 200) C rfl (by decide) (by first | omega | exact bi_rng _) dX7_nodeOf_19 ?_
    refine x_iconst C dX7_nodeOf_20 ?_
    refine x_icmp_eq (tgt := 33) C dX7_nodeOf_21 (by decide) (by first | omega | exact bi_rng _) (by first | omega | exact bi_rng _) (fun h21 => ?_) (fun h21 => ?_)
    ·
      refine x_bipush C dX7_nodeOf_33 (by decide) ?_
      refine x_aload_n C dX7_nodeOf_35 rfl rfl ?_
      refine m_get (f := 4) C (by decide) u2_1 rfl rfl dX7_nodeOf_36 ?_
      refine x_iload_n C dX7_nodeOf_39 rfl rfl ?_
      refine m_iald (f := 4) (q0 := 2) (N := 200) C rfl (by decide) (by first | omega | exact bi_rng _) dX7_nodeOf_40 ?_
      refine x_iadd C dX7_nodeOf_41 ?_
      refine x_iret (ty := .int) C hQ dX7_nodeOf_42 rfl rfl (by decide) (by decide) ?_
      exact ⟨rv (by simp only [ndOf]; split <;> omega), rfl⟩
    ·
      refine x_aload_n C dX7_nodeOf_24 rfl rfl ?_
      refine m_get (f := 5) C (by decide) u2_2 rfl rfl dX7_nodeOf_25 ?_
      refine x_iload_n C dX7_nodeOf_28 rfl rfl ?_
      refine m_iald (f := 5) (q0 := 3) (N := 200) C rfl (by decide) (by first | omega | exact bi_rng _) dX7_nodeOf_29 ?_
      refine x_goto (tgt := 42) C dX7_nodeOf_30 (by decide) ?_
      refine x_iret (ty := .int) C hQ dX7_nodeOf_42 rfl rfl (by decide) (by decide) ?_
      exact ⟨rv (by simp only [ndOf]; split <;> omega), rfl⟩

set_option maxRecDepth 100000 in
set_option maxHeartbeats 4000000 in
theorem k_X7_belongs {l : Launch} {D : va_G} {cy : CY} (hst : l.stackTraces = false) {b : Nat → Nat} {t : Int} {M : MS} {e node : Int} (hM : MI M) (he : 0 ≤ e ∧ e < M 2 0) (hnode : 0 ≤ node ∧ node < 20) : Ct l D cy yX7_belongs (Cond.code yX7_belongs cX7_belongs 3 (some .boolean)) 1 21 0 0 (IM cy b) [vr (some (b 0)), vi e, vi node] (t, M) (fun r q' => r = .ok (some (vi (bi (blg M e node)))) ∧ q' = (t, M)) := by
  refine Ct.of1 (own := RX7) hst (by decide) rfl (Nat.le_of_ble_eq_true rfl) (cat1 (vr_cat _) (cat1 (vi_cat _) (cat1 (vi_cat _) (cat0)))) ?_
  intro φ C hQ hn hR hl hD
  subst hl hD
  obtain ⟨⟨e3a, e3b⟩, ⟨e4a, e4b⟩, ⟨e5a, e5b⟩, ⟨e6a, e6b⟩, ⟨e7a, e7b⟩, ⟨e8a, e8b⟩⟩ := hM.ev e he.1 he.2
  have hN := hM.n
  have hsk := hM.sk _ e4a e4b
  have g9 := hM.b9 e
  have g12 := hM.b12 (M 4 e)
  have g13 := hM.b13 (10 * M 4 e + M 5 e)
  have hnd := ndOf_in hM he.1 he.2
  have hl1 := hM.low _ hnd.1 hnd.2
  have hl2 := hM.low _ hnode.1 hnode.2
  refine x_aload_n C dX7_belongs_0 rfl rfl ?_
  refine m_get (f := 9) C (by decide) u2_6 rfl rfl dX7_belongs_1 ?_
  refine x_iload_n C dX7_belongs_4 rfl rfl ?_
  refine m_zald (f := 9) (q0 := 7) (N := 200) C rfl (by decide) (by first | omega | exact bi_rng _) dX7_belongs_5 ?_
  refine x_if_ne (tgt := 32) C dX7_belongs_6 (by decide) (by first | omega | exact bi_rng _) (fun h6 => ?_) (fun h6 => ?_)
  ·
    refine x_iconst C dX7_belongs_32 ?_
    refine x_iret (ty := .boolean) C hQ dX7_belongs_33 rfl (by decide) (by decide) (by decide) ?_
    exact ⟨rv (by simp only [bi]; split <;> omega), rfl⟩
  ·
    refine x_aload_n C dX7_belongs_9 rfl rfl ?_
    refine m_get (f := 27) C (by decide) u2_21 rfl rfl dX7_belongs_10 ?_
    refine x_aload_n C dX7_belongs_13 rfl rfl ?_
    refine x_iload_n C dX7_belongs_14 rfl rfl ?_
    refine x_callV C hR cb_X7_nodeOf cv_X7_nodeOf u14_23 (k_X7_nodeOf hst hM (by omega)) m_recv ⟨_, _, rfl⟩ rfl (Nat.le_of_ble_eq_true rfl) rfl dX7_belongs_15 (by decide) (by decide) (fun E x9 h9 => absurd h9.1 (by intro h; cases h)) (fun r9 x9 h9 => ?_)
    obtain ⟨e9, rfl⟩ := h9
    cases e9
    refine m_iald (f := 27) (q0 := 22) (N := 20) C rfl (by decide) (by first | omega | exact bi_rng _) dX7_belongs_18 ?_
    refine x_aload_n C dX7_belongs_19 rfl rfl ?_
    refine m_get (f := 27) C (by decide) u2_21 rfl rfl dX7_belongs_20 ?_
    refine x_iload_n C dX7_belongs_23 rfl rfl ?_
    refine m_iald (f := 27) (q0 := 22) (N := 20) C rfl (by decide) (by first | omega | exact bi_rng _) dX7_belongs_24 ?_
    refine x_icmp_ne (tgt := 32) C dX7_belongs_25 (by decide) (by first | omega | exact bi_rng _) (by first | omega | exact bi_rng _) (fun h25 => ?_) (fun h25 => ?_)
    ·
      refine x_iconst C dX7_belongs_32 ?_
      refine x_iret (ty := .boolean) C hQ dX7_belongs_33 rfl (by decide) (by decide) (by decide) ?_
      exact ⟨rv (by simp only [bi]; split <;> omega), rfl⟩
    ·
      refine x_iconst C dX7_belongs_28 ?_
      refine x_goto (tgt := 33) C dX7_belongs_29 (by decide) ?_
      refine x_iret (ty := .boolean) C hQ dX7_belongs_33 rfl (by decide) (by decide) (by decide) ?_
      exact ⟨rv (by simp only [bi]; split <;> omega), rfl⟩

set_option maxRecDepth 100000 in
set_option maxHeartbeats 4000000 in
theorem k_X7_isNode {l : Launch} {D : va_G} {cy : CY} (hst : l.stackTraces = false) {b : Nat → Nat} {t : Int} {M : MS} {a : Int} (ha : -2147483648 ≤ a ∧ a ≤ 2147483647) : Ct l D cy yX7_isNode (Cond.code yX7_isNode cX7_isNode 2 (some .boolean)) 1 22 0 0 (IM cy b) [vr (some (b 0)), vi a] (t, M) (fun r q' => r = .ok (some (vi (bi (0 ≤ a ∧ a ≤ 19)))) ∧ q' = (t, M)) := by
  refine Ct.of1 (own := RX7) hst (by decide) rfl (Nat.le_of_ble_eq_true rfl) (cat1 (vr_cat _) (cat1 (vi_cat _) (cat0))) ?_
  intro φ C hQ hn hR hl hD
  subst hl hD
  refine x_iload_n C dX7_isNode_0 rfl rfl ?_
  refine x_iconst C dX7_isNode_1 ?_
  refine x_bipush C dX7_isNode_2 (by decide) ?_
  refine x_callS C hR cb_X7_isIn u7_11 u7_10 (k_X7_isIn hst (a := a) (lo := 0) (hi := 19) (by omega) (by omega) (by omega)) rfl (Nat.le_of_ble_eq_true rfl) rfl dX7_isNode_4 (by decide) (by decide) (fun E x9 h9 => absurd h9.1 (by intro h; cases h)) (fun r9 x9 h9 => ?_)
  obtain ⟨e9, rfl⟩ := h9
  cases e9
  refine x_iret (ty := .boolean) C hQ dX7_isNode_7 rfl (nar_bi (bi_01 _)) (by decide) (by decide) ?_
  exact ⟨rfl, rfl⟩

set_option maxRecDepth 100000 in
set_option maxHeartbeats 4000000 in
theorem k_X7_isAhead {l : Launch} {D : va_G} {cy : CY} (hst : l.stackTraces = false) {b : Nat → Nat} {t : Int} {M : MS} {e o : Int} (hM : MI M) (he : 0 ≤ e ∧ e < M 2 0) (ho : 0 ≤ o ∧ o < M 2 0) : Ct l D cy yX7_isAhead (Cond.code yX7_isAhead cX7_isAhead 3 (some .boolean)) 1 22 0 0 (IM cy b) [vr (some (b 0)), vi e, vi o] (t, M) (fun r q' => r = .ok (some (vi (bi (ahd M e o)))) ∧ q' = (t, M)) := by
  refine Ct.of1 (own := RX7) hst (by decide) rfl (Nat.le_of_ble_eq_true rfl) (cat1 (vr_cat _) (cat1 (vi_cat _) (cat1 (vi_cat _) (cat0)))) ?_
  intro φ C hQ hn hR hl hD
  subst hl hD
  have hN := hM.n
  have t1 := tmOf_in hM he.1 he.2
  have t2 := tmOf_in hM ho.1 ho.2
  refine x_aload_n C dX7_isAhead_0 rfl rfl ?_
  refine x_iload_n C dX7_isAhead_1 rfl rfl ?_
  refine x_callV C hR cb_X7_timeOf cv_X7_timeOf u18_0 (k_X7_timeOf hst hM (by omega)) m_recv ⟨_, _, rfl⟩ rfl (Nat.le_of_ble_eq_true rfl) rfl dX7_isAhead_2 (by decide) (by decide) (fun E x9 h9 => absurd h9.1 (by intro h; cases h)) (fun r9 x9 h9 => ?_)
  obtain ⟨e9, rfl⟩ := h9
  cases e9
  refine x_aload_n C dX7_isAhead_5 rfl rfl ?_
  refine x_iload_n C dX7_isAhead_6 rfl rfl ?_
  refine x_callV C hR cb_X7_timeOf cv_X7_timeOf u18_0 (k_X7_timeOf hst hM (by omega)) m_recv ⟨_, _, rfl⟩ rfl (Nat.le_of_ble_eq_true rfl) rfl dX7_isAhead_7 (by decide) (by decide) (fun E x9 h9 => absurd h9.1 (by intro h; cases h)) (fun r9 x9 h9 => ?_)
  obtain ⟨e9, rfl⟩ := h9
  cases e9
  refine x_icmp_lt (tgt := 31) C dX7_isAhead_10 (by decide) (by first | omega | exact bi_rng _) (by first | omega | exact bi_rng _) (fun h10 => ?_) (fun h10 => ?_)
  ·
    refine x_iconst C dX7_isAhead_31 ?_
    refine x_goto (tgt := 36) C dX7_isAhead_32 (by decide) ?_
    refine x_iret (ty := .boolean) C hQ dX7_isAhead_36 rfl (by decide) (by decide) (by decide) ?_
    exact ⟨rv (by simp only [bi]; split <;> omega), rfl⟩
  ·
    refine x_aload_n C dX7_isAhead_13 rfl rfl ?_
    refine x_iload_n C dX7_isAhead_14 rfl rfl ?_
    refine x_callV C hR cb_X7_timeOf cv_X7_timeOf u18_0 (k_X7_timeOf hst hM (by omega)) m_recv ⟨_, _, rfl⟩ rfl (Nat.le_of_ble_eq_true rfl) rfl dX7_isAhead_15 (by decide) (by decide) (fun E x9 h9 => absurd h9.1 (by intro h; cases h)) (fun r9 x9 h9 => ?_)
    obtain ⟨e9, rfl⟩ := h9
    cases e9
    refine x_aload_n C dX7_isAhead_18 rfl rfl ?_
    refine x_iload_n C dX7_isAhead_19 rfl rfl ?_
    refine x_callV C hR cb_X7_timeOf cv_X7_timeOf u18_0 (k_X7_timeOf hst hM (by omega)) m_recv ⟨_, _, rfl⟩ rfl (Nat.le_of_ble_eq_true rfl) rfl dX7_isAhead_20 (by decide) (by decide) (fun E x9 h9 => absurd h9.1 (by intro h; cases h)) (fun r9 x9 h9 => ?_)
    obtain ⟨e9, rfl⟩ := h9
    cases e9
    refine x_icmp_ne (tgt := 35) C dX7_isAhead_23 (by decide) (by first | omega | exact bi_rng _) (by first | omega | exact bi_rng _) (fun h23 => ?_) (fun h23 => ?_)
    ·
      refine x_iconst C dX7_isAhead_35 ?_
      refine x_iret (ty := .boolean) C hQ dX7_isAhead_36 rfl (by decide) (by decide) (by decide) ?_
      exact ⟨rv (by simp only [bi]; split <;> omega), rfl⟩
    ·
      refine x_iload_n C dX7_isAhead_26 rfl rfl ?_
      refine x_iload_n C dX7_isAhead_27 rfl rfl ?_
      refine x_icmp_ge (tgt := 35) C dX7_isAhead_28 (by decide) (by first | omega | exact bi_rng _) (by first | omega | exact bi_rng _) (fun h28 => ?_) (fun h28 => ?_)
      ·
        refine x_iconst C dX7_isAhead_35 ?_
        refine x_iret (ty := .boolean) C hQ dX7_isAhead_36 rfl (by decide) (by decide) (by decide) ?_
        exact ⟨rv (by simp only [bi]; split <;> omega), rfl⟩
      ·
        refine x_iconst C dX7_isAhead_31 ?_
        refine x_goto (tgt := 36) C dX7_isAhead_32 (by decide) ?_
        refine x_iret (ty := .boolean) C hQ dX7_isAhead_36 rfl (by decide) (by decide) (by decide) ?_
        exact ⟨rv (by simp only [bi]; split <;> omega), rfl⟩

set_option maxRecDepth 100000 in
set_option maxHeartbeats 4000000 in
theorem k_X7_cuts {l : Launch} {D : va_G} {cy : CY} (hst : l.stackTraces = false) {b : Nat → Nat} {t : Int} {M : MS} {a e f : Int} (hM : MI M) (ha : 0 ≤ a ∧ a < M 2 0) (he : 0 ≤ e ∧ e < M 2 0) (hf : -1 ≤ f ∧ f ≤ 9) : Ct l D cy yX7_cuts (Cond.code yX7_cuts cX7_cuts 5 (some .boolean)) 1 22 0 0 (IM cy b) [vr (some (b 0)), vi a, vi e, vi f] (t, M) (fun r q' => r = .ok (some (vi (bi (cts M a e f)))) ∧ q' = (t, M)) := by
  refine Ct.of1 (own := RX7) hst (by decide) rfl (Nat.le_of_ble_eq_true rfl) (cat1 (vr_cat _) (cat1 (vi_cat _) (cat1 (vi_cat _) (cat1 (vi_cat _) (cat0))))) ?_
  intro φ C hQ hn hR hl hD
  subst hl hD
  obtain ⟨⟨e3a, e3b⟩, ⟨e4a, e4b⟩, ⟨e5a, e5b⟩, ⟨e6a, e6b⟩, ⟨e7a, e7b⟩, ⟨e8a, e8b⟩⟩ := hM.ev e he.1 he.2
  have hN := hM.n
  have hsk := hM.sk _ e4a e4b
  have g9 := hM.b9 e
  have g12 := hM.b12 (M 4 e)
  have g13 := hM.b13 (10 * M 4 e + M 5 e)
  have t1 := tmOf_in hM he.1 he.2
  have t2 := tmOf_in hM ha.1 ha.2
  have t3 := tdiv_in t1.1 (by omega)
  have t4 := tdiv_in t2.1 (by omega)
  refine x_iload_n C dX7_cuts_0 rfl rfl ?_
  refine x_iconst C dX7_cuts_1 ?_
  refine x_icmp_eq (tgt := 29) C dX7_cuts_2 (by decide) (by first | omega | exact bi_rng _) (by first | omega | exact bi_rng _) (fun h2 => ?_) (fun h2 => ?_)
  ·
    refine x_iconst C dX7_cuts_29 ?_
    refine x_istore C dX7_cuts_30 (by rw [hn]; exact Nat.le_of_ble_eq_true rfl) ?_
    refine x_aload_n C dX7_cuts_32 rfl rfl ?_
    refine x_iload_n C dX7_cuts_33 rfl rfl ?_
    refine x_callV C hR cb_X7_timeOf cv_X7_timeOf u18_0 (k_X7_timeOf hst hM (by omega)) m_recv ⟨_, _, rfl⟩ rfl (Nat.le_of_ble_eq_true rfl) rfl dX7_cuts_34 (by decide) (by decide) (fun E x9 h9 => absurd h9.1 (by intro h; cases h)) (fun r9 x9 h9 => ?_)
    obtain ⟨e9, rfl⟩ := h9
    cases e9
    refine x_aload_n C dX7_cuts_37 rfl rfl ?_
    refine x_iload_n C dX7_cuts_38 rfl rfl ?_
    refine x_callV C hR cb_X7_timeOf cv_X7_timeOf u18_0 (k_X7_timeOf hst hM (by omega)) m_recv ⟨_, _, rfl⟩ rfl (Nat.le_of_ble_eq_true rfl) rfl dX7_cuts_39 (by decide) (by decide) (fun E x9 h9 => absurd h9.1 (by intro h; cases h)) (fun r9 x9 h9 => ?_)
    obtain ⟨e9, rfl⟩ := h9
    cases e9
    refine x_isub C dX7_cuts_42 ?_
    refine x_bipush C dX7_cuts_43 (by decide) ?_
    refine x_icmp_gt (tgt := 74) C dX7_cuts_45 (by decide) (by first | omega | exact bi_rng _) (by first | omega | exact bi_rng _) (fun h45 => ?_) (fun h45 => ?_)
    ·
      refine x_iconst C dX7_cuts_74 ?_
      refine x_goto (tgt := 79) C dX7_cuts_75 (by decide) ?_
      refine x_iret (ty := .boolean) C hQ dX7_cuts_79 rfl (by decide) (by decide) (by decide) ?_
      exact ⟨rv (by simp only [bi]; split <;> omega), rfl⟩
    ·
      refine x_aload_n C dX7_cuts_48 rfl rfl ?_
      refine x_iload_n C dX7_cuts_49 rfl rfl ?_
      refine x_callV C hR cb_X7_timeOf cv_X7_timeOf u18_0 (k_X7_timeOf hst hM (by omega)) m_recv ⟨_, _, rfl⟩ rfl (Nat.le_of_ble_eq_true rfl) rfl dX7_cuts_50 (by decide) (by decide) (fun E x9 h9 => absurd h9.1 (by intro h; cases h)) (fun r9 x9 h9 => ?_)
      obtain ⟨e9, rfl⟩ := h9
      cases e9
      refine x_sipush C dX7_cuts_53 (by decide) ?_
      refine x_idiv C dX7_cuts_56 (by first | omega | exact bi_rng _) (by first | omega | exact bi_rng _) ?_
      refine x_aload_n C dX7_cuts_57 rfl rfl ?_
      refine x_iload_n C dX7_cuts_58 rfl rfl ?_
      refine x_callV C hR cb_X7_timeOf cv_X7_timeOf u18_0 (k_X7_timeOf hst hM (by omega)) m_recv ⟨_, _, rfl⟩ rfl (Nat.le_of_ble_eq_true rfl) rfl dX7_cuts_59 (by decide) (by decide) (fun E x9 h9 => absurd h9.1 (by intro h; cases h)) (fun r9 x9 h9 => ?_)
      obtain ⟨e9, rfl⟩ := h9
      cases e9
      refine x_sipush C dX7_cuts_62 (by decide) ?_
      refine x_idiv C dX7_cuts_65 (by first | omega | exact bi_rng _) (by first | omega | exact bi_rng _) ?_
      refine x_icmp_ne (tgt := 74) C dX7_cuts_66 (by decide) (by first | omega | exact bi_rng _) (by first | omega | exact bi_rng _) (fun h66 => ?_) (fun h66 => ?_)
      ·
        refine x_iconst C dX7_cuts_74 ?_
        refine x_goto (tgt := 79) C dX7_cuts_75 (by decide) ?_
        refine x_iret (ty := .boolean) C hQ dX7_cuts_79 rfl (by decide) (by decide) (by decide) ?_
        exact ⟨rv (by simp only [bi]; split <;> omega), rfl⟩
      ·
        refine x_iload C dX7_cuts_69 rfl ?_
        refine x_if_eq (tgt := 78) C dX7_cuts_71 (by decide) (by decide) (fun _ => ?_) (fun h => absurd h (by decide))
        refine x_iconst C dX7_cuts_78 ?_
        refine x_iret (ty := .boolean) C hQ dX7_cuts_79 rfl (by decide) (by decide) (by decide) ?_
        exact ⟨rv (by simp only [bi]; split <;> omega), rfl⟩
  ·
    refine x_aload_n C dX7_cuts_5 rfl rfl ?_
    refine m_get (f := 7) C (by decide) u2_4 rfl rfl dX7_cuts_6 ?_
    refine x_iload_n C dX7_cuts_9 rfl rfl ?_
    refine m_iald (f := 7) (q0 := 5) (N := 200) C rfl (by decide) (by first | omega | exact bi_rng _) dX7_cuts_10 ?_
    refine x_iconst C dX7_cuts_11 ?_
    refine x_icmp_eq (tgt := 29) C dX7_cuts_12 (by decide) (by first | omega | exact bi_rng _) (by first | omega | exact bi_rng _) (fun h12 => ?_) (fun h12 => ?_)
    ·
      refine x_iconst C dX7_cuts_29 ?_
      refine x_istore C dX7_cuts_30 (by rw [hn]; exact Nat.le_of_ble_eq_true rfl) ?_
      refine x_aload_n C dX7_cuts_32 rfl rfl ?_
      refine x_iload_n C dX7_cuts_33 rfl rfl ?_
      refine x_callV C hR cb_X7_timeOf cv_X7_timeOf u18_0 (k_X7_timeOf hst hM (by omega)) m_recv ⟨_, _, rfl⟩ rfl (Nat.le_of_ble_eq_true rfl) rfl dX7_cuts_34 (by decide) (by decide) (fun E x9 h9 => absurd h9.1 (by intro h; cases h)) (fun r9 x9 h9 => ?_)
      obtain ⟨e9, rfl⟩ := h9
      cases e9
      refine x_aload_n C dX7_cuts_37 rfl rfl ?_
      refine x_iload_n C dX7_cuts_38 rfl rfl ?_
      refine x_callV C hR cb_X7_timeOf cv_X7_timeOf u18_0 (k_X7_timeOf hst hM (by omega)) m_recv ⟨_, _, rfl⟩ rfl (Nat.le_of_ble_eq_true rfl) rfl dX7_cuts_39 (by decide) (by decide) (fun E x9 h9 => absurd h9.1 (by intro h; cases h)) (fun r9 x9 h9 => ?_)
      obtain ⟨e9, rfl⟩ := h9
      cases e9
      refine x_isub C dX7_cuts_42 ?_
      refine x_bipush C dX7_cuts_43 (by decide) ?_
      refine x_icmp_gt (tgt := 74) C dX7_cuts_45 (by decide) (by first | omega | exact bi_rng _) (by first | omega | exact bi_rng _) (fun h45 => ?_) (fun h45 => ?_)
      ·
        refine x_iconst C dX7_cuts_74 ?_
        refine x_goto (tgt := 79) C dX7_cuts_75 (by decide) ?_
        refine x_iret (ty := .boolean) C hQ dX7_cuts_79 rfl (by decide) (by decide) (by decide) ?_
        exact ⟨rv (by simp only [bi]; split <;> omega), rfl⟩
      ·
        refine x_aload_n C dX7_cuts_48 rfl rfl ?_
        refine x_iload_n C dX7_cuts_49 rfl rfl ?_
        refine x_callV C hR cb_X7_timeOf cv_X7_timeOf u18_0 (k_X7_timeOf hst hM (by omega)) m_recv ⟨_, _, rfl⟩ rfl (Nat.le_of_ble_eq_true rfl) rfl dX7_cuts_50 (by decide) (by decide) (fun E x9 h9 => absurd h9.1 (by intro h; cases h)) (fun r9 x9 h9 => ?_)
        obtain ⟨e9, rfl⟩ := h9
        cases e9
        refine x_sipush C dX7_cuts_53 (by decide) ?_
        refine x_idiv C dX7_cuts_56 (by first | omega | exact bi_rng _) (by first | omega | exact bi_rng _) ?_
        refine x_aload_n C dX7_cuts_57 rfl rfl ?_
        refine x_iload_n C dX7_cuts_58 rfl rfl ?_
        refine x_callV C hR cb_X7_timeOf cv_X7_timeOf u18_0 (k_X7_timeOf hst hM (by omega)) m_recv ⟨_, _, rfl⟩ rfl (Nat.le_of_ble_eq_true rfl) rfl dX7_cuts_59 (by decide) (by decide) (fun E x9 h9 => absurd h9.1 (by intro h; cases h)) (fun r9 x9 h9 => ?_)
        obtain ⟨e9, rfl⟩ := h9
        cases e9
        refine x_sipush C dX7_cuts_62 (by decide) ?_
        refine x_idiv C dX7_cuts_65 (by first | omega | exact bi_rng _) (by first | omega | exact bi_rng _) ?_
        refine x_icmp_ne (tgt := 74) C dX7_cuts_66 (by decide) (by first | omega | exact bi_rng _) (by first | omega | exact bi_rng _) (fun h66 => ?_) (fun h66 => ?_)
        ·
          refine x_iconst C dX7_cuts_74 ?_
          refine x_goto (tgt := 79) C dX7_cuts_75 (by decide) ?_
          refine x_iret (ty := .boolean) C hQ dX7_cuts_79 rfl (by decide) (by decide) (by decide) ?_
          exact ⟨rv (by simp only [bi]; split <;> omega), rfl⟩
        ·
          refine x_iload C dX7_cuts_69 rfl ?_
          refine x_if_eq (tgt := 78) C dX7_cuts_71 (by decide) (by decide) (fun _ => ?_) (fun h => absurd h (by decide))
          refine x_iconst C dX7_cuts_78 ?_
          refine x_iret (ty := .boolean) C hQ dX7_cuts_79 rfl (by decide) (by decide) (by decide) ?_
          exact ⟨rv (by simp only [bi]; split <;> omega), rfl⟩
    ·
      refine x_aload_n C dX7_cuts_15 rfl rfl ?_
      refine m_get (f := 7) C (by decide) u2_4 rfl rfl dX7_cuts_16 ?_
      refine x_iload_n C dX7_cuts_19 rfl rfl ?_
      refine m_iald (f := 7) (q0 := 5) (N := 200) C rfl (by decide) (by first | omega | exact bi_rng _) dX7_cuts_20 ?_
      refine x_iload_n C dX7_cuts_21 rfl rfl ?_
      refine x_icmp_eq (tgt := 29) C dX7_cuts_22 (by decide) (by first | omega | exact bi_rng _) (by first | omega | exact bi_rng _) (fun h22 => ?_) (fun h22 => ?_)
      ·
        refine x_iconst C dX7_cuts_29 ?_
        refine x_istore C dX7_cuts_30 (by rw [hn]; exact Nat.le_of_ble_eq_true rfl) ?_
        refine x_aload_n C dX7_cuts_32 rfl rfl ?_
        refine x_iload_n C dX7_cuts_33 rfl rfl ?_
        refine x_callV C hR cb_X7_timeOf cv_X7_timeOf u18_0 (k_X7_timeOf hst hM (by omega)) m_recv ⟨_, _, rfl⟩ rfl (Nat.le_of_ble_eq_true rfl) rfl dX7_cuts_34 (by decide) (by decide) (fun E x9 h9 => absurd h9.1 (by intro h; cases h)) (fun r9 x9 h9 => ?_)
        obtain ⟨e9, rfl⟩ := h9
        cases e9
        refine x_aload_n C dX7_cuts_37 rfl rfl ?_
        refine x_iload_n C dX7_cuts_38 rfl rfl ?_
        refine x_callV C hR cb_X7_timeOf cv_X7_timeOf u18_0 (k_X7_timeOf hst hM (by omega)) m_recv ⟨_, _, rfl⟩ rfl (Nat.le_of_ble_eq_true rfl) rfl dX7_cuts_39 (by decide) (by decide) (fun E x9 h9 => absurd h9.1 (by intro h; cases h)) (fun r9 x9 h9 => ?_)
        obtain ⟨e9, rfl⟩ := h9
        cases e9
        refine x_isub C dX7_cuts_42 ?_
        refine x_bipush C dX7_cuts_43 (by decide) ?_
        refine x_icmp_gt (tgt := 74) C dX7_cuts_45 (by decide) (by first | omega | exact bi_rng _) (by first | omega | exact bi_rng _) (fun h45 => ?_) (fun h45 => ?_)
        ·
          refine x_iconst C dX7_cuts_74 ?_
          refine x_goto (tgt := 79) C dX7_cuts_75 (by decide) ?_
          refine x_iret (ty := .boolean) C hQ dX7_cuts_79 rfl (by decide) (by decide) (by decide) ?_
          exact ⟨rv (by simp only [bi]; split <;> omega), rfl⟩
        ·
          refine x_aload_n C dX7_cuts_48 rfl rfl ?_
          refine x_iload_n C dX7_cuts_49 rfl rfl ?_
          refine x_callV C hR cb_X7_timeOf cv_X7_timeOf u18_0 (k_X7_timeOf hst hM (by omega)) m_recv ⟨_, _, rfl⟩ rfl (Nat.le_of_ble_eq_true rfl) rfl dX7_cuts_50 (by decide) (by decide) (fun E x9 h9 => absurd h9.1 (by intro h; cases h)) (fun r9 x9 h9 => ?_)
          obtain ⟨e9, rfl⟩ := h9
          cases e9
          refine x_sipush C dX7_cuts_53 (by decide) ?_
          refine x_idiv C dX7_cuts_56 (by first | omega | exact bi_rng _) (by first | omega | exact bi_rng _) ?_
          refine x_aload_n C dX7_cuts_57 rfl rfl ?_
          refine x_iload_n C dX7_cuts_58 rfl rfl ?_
          refine x_callV C hR cb_X7_timeOf cv_X7_timeOf u18_0 (k_X7_timeOf hst hM (by omega)) m_recv ⟨_, _, rfl⟩ rfl (Nat.le_of_ble_eq_true rfl) rfl dX7_cuts_59 (by decide) (by decide) (fun E x9 h9 => absurd h9.1 (by intro h; cases h)) (fun r9 x9 h9 => ?_)
          obtain ⟨e9, rfl⟩ := h9
          cases e9
          refine x_sipush C dX7_cuts_62 (by decide) ?_
          refine x_idiv C dX7_cuts_65 (by first | omega | exact bi_rng _) (by first | omega | exact bi_rng _) ?_
          refine x_icmp_ne (tgt := 74) C dX7_cuts_66 (by decide) (by first | omega | exact bi_rng _) (by first | omega | exact bi_rng _) (fun h66 => ?_) (fun h66 => ?_)
          ·
            refine x_iconst C dX7_cuts_74 ?_
            refine x_goto (tgt := 79) C dX7_cuts_75 (by decide) ?_
            refine x_iret (ty := .boolean) C hQ dX7_cuts_79 rfl (by decide) (by decide) (by decide) ?_
            exact ⟨rv (by simp only [bi]; split <;> omega), rfl⟩
          ·
            refine x_iload C dX7_cuts_69 rfl ?_
            refine x_if_eq (tgt := 78) C dX7_cuts_71 (by decide) (by decide) (fun _ => ?_) (fun h => absurd h (by decide))
            refine x_iconst C dX7_cuts_78 ?_
            refine x_iret (ty := .boolean) C hQ dX7_cuts_79 rfl (by decide) (by decide) (by decide) ?_
            exact ⟨rv (by simp only [bi]; split <;> omega), rfl⟩
      ·
        refine x_iconst C dX7_cuts_25 ?_
        refine x_goto (tgt := 30) C dX7_cuts_26 (by decide) ?_
        refine x_istore C dX7_cuts_30 (by rw [hn]; exact Nat.le_of_ble_eq_true rfl) ?_
        refine x_aload_n C dX7_cuts_32 rfl rfl ?_
        refine x_iload_n C dX7_cuts_33 rfl rfl ?_
        refine x_callV C hR cb_X7_timeOf cv_X7_timeOf u18_0 (k_X7_timeOf hst hM (by omega)) m_recv ⟨_, _, rfl⟩ rfl (Nat.le_of_ble_eq_true rfl) rfl dX7_cuts_34 (by decide) (by decide) (fun E x9 h9 => absurd h9.1 (by intro h; cases h)) (fun r9 x9 h9 => ?_)
        obtain ⟨e9, rfl⟩ := h9
        cases e9
        refine x_aload_n C dX7_cuts_37 rfl rfl ?_
        refine x_iload_n C dX7_cuts_38 rfl rfl ?_
        refine x_callV C hR cb_X7_timeOf cv_X7_timeOf u18_0 (k_X7_timeOf hst hM (by omega)) m_recv ⟨_, _, rfl⟩ rfl (Nat.le_of_ble_eq_true rfl) rfl dX7_cuts_39 (by decide) (by decide) (fun E x9 h9 => absurd h9.1 (by intro h; cases h)) (fun r9 x9 h9 => ?_)
        obtain ⟨e9, rfl⟩ := h9
        cases e9
        refine x_isub C dX7_cuts_42 ?_
        refine x_bipush C dX7_cuts_43 (by decide) ?_
        refine x_icmp_gt (tgt := 74) C dX7_cuts_45 (by decide) (by first | omega | exact bi_rng _) (by first | omega | exact bi_rng _) (fun h45 => ?_) (fun h45 => ?_)
        ·
          refine x_iconst C dX7_cuts_74 ?_
          refine x_goto (tgt := 79) C dX7_cuts_75 (by decide) ?_
          refine x_iret (ty := .boolean) C hQ dX7_cuts_79 rfl (by decide) (by decide) (by decide) ?_
          exact ⟨rv (by simp only [bi]; split <;> omega), rfl⟩
        ·
          refine x_aload_n C dX7_cuts_48 rfl rfl ?_
          refine x_iload_n C dX7_cuts_49 rfl rfl ?_
          refine x_callV C hR cb_X7_timeOf cv_X7_timeOf u18_0 (k_X7_timeOf hst hM (by omega)) m_recv ⟨_, _, rfl⟩ rfl (Nat.le_of_ble_eq_true rfl) rfl dX7_cuts_50 (by decide) (by decide) (fun E x9 h9 => absurd h9.1 (by intro h; cases h)) (fun r9 x9 h9 => ?_)
          obtain ⟨e9, rfl⟩ := h9
          cases e9
          refine x_sipush C dX7_cuts_53 (by decide) ?_
          refine x_idiv C dX7_cuts_56 (by first | omega | exact bi_rng _) (by first | omega | exact bi_rng _) ?_
          refine x_aload_n C dX7_cuts_57 rfl rfl ?_
          refine x_iload_n C dX7_cuts_58 rfl rfl ?_
          refine x_callV C hR cb_X7_timeOf cv_X7_timeOf u18_0 (k_X7_timeOf hst hM (by omega)) m_recv ⟨_, _, rfl⟩ rfl (Nat.le_of_ble_eq_true rfl) rfl dX7_cuts_59 (by decide) (by decide) (fun E x9 h9 => absurd h9.1 (by intro h; cases h)) (fun r9 x9 h9 => ?_)
          obtain ⟨e9, rfl⟩ := h9
          cases e9
          refine x_sipush C dX7_cuts_62 (by decide) ?_
          refine x_idiv C dX7_cuts_65 (by first | omega | exact bi_rng _) (by first | omega | exact bi_rng _) ?_
          refine x_icmp_ne (tgt := 74) C dX7_cuts_66 (by decide) (by first | omega | exact bi_rng _) (by first | omega | exact bi_rng _) (fun h66 => ?_) (fun h66 => ?_)
          ·
            refine x_iconst C dX7_cuts_74 ?_
            refine x_goto (tgt := 79) C dX7_cuts_75 (by decide) ?_
            refine x_iret (ty := .boolean) C hQ dX7_cuts_79 rfl (by decide) (by decide) (by decide) ?_
            exact ⟨rv (by simp only [bi]; split <;> omega), rfl⟩
          ·
            refine x_iload C dX7_cuts_69 rfl ?_
            refine x_if_eq (tgt := 78) C dX7_cuts_71 (by decide) (by decide) (fun h => absurd h (by decide)) (fun _ => ?_)
            refine x_iconst C dX7_cuts_74 ?_
            refine x_goto (tgt := 79) C dX7_cuts_75 (by decide) ?_
            refine x_iret (ty := .boolean) C hQ dX7_cuts_79 rfl (by decide) (by decide) (by decide) ?_
            exact ⟨rv (by simp only [bi]; split <;> omega), rfl⟩

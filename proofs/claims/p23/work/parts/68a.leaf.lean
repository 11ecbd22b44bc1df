/-! The law's small methods -/
def lwF (v n : Int) : Int := bOp (· &&& ·) v 2147483647 % n
theorem and_nn (a : Int) : 0 ≤ bOp (· &&& ·) a 2147483647 ∧ bOp (· &&& ·) a 2147483647 ≤ 2147483647 := by
  show 0 ≤ (Int32.ofInt a &&& Int32.ofInt 2147483647).toInt ∧ (Int32.ofInt a &&& Int32.ofInt 2147483647).toInt ≤ 2147483647
  generalize Int32.ofInt a = x
  have h1 : (Int32.ofInt 2147483647).toBitVec = 2147483647#32 := by decide +kernel
  have h2 : (x &&& Int32.ofInt 2147483647).toBitVec = x.toBitVec &&& 2147483647#32 := by rw [Int32.toBitVec_and, h1]
  have h3 : (x.toBitVec &&& 2147483647#32).toNat ≤ 2147483647 := by
    rw [BitVec.toNat_and]
    exact Nat.and_le_right
  have h4 : (x &&& Int32.ofInt 2147483647).toInt = ((x.toBitVec &&& 2147483647#32).toNat : Int) := by
    show (x &&& Int32.ofInt 2147483647).toBitVec.toInt = _
    rw [h2, BitVec.toInt_eq_toNat_of_lt (by omega)]
  rw [h4]
  omega
theorem lwF_in {v n : Int} (hn : 0 < n) : 0 ≤ lwF v n ∧ lwF v n < n := ⟨Int.emod_nonneg _ (by omega), Int.emod_lt_of_pos _ hn⟩
def ptF (z w : Int) : Int := if w = 0 then z % 4 else if w = 1 then z / 4 % 4 - 1 else if w = 2 then z / 16 % 8 else if w = 3 then z / 128 % 16 - 1 else z / 2048 % 200000
def nn (i : Int) : Int := if i < 3 then i else 7 + i
def encE (M : MS) (k : Int) : Int := M 4 k + 4 * (M 5 k + 1) + 16 * M 6 k + 128 * (M 7 k + 1) + 2048 * M 8 k
def EvB (M : MS) (k : Int) : Prop := (0 ≤ M 4 k ∧ M 4 k ≤ 2) ∧ (-1 ≤ M 5 k ∧ M 5 k ≤ 2) ∧ (0 ≤ M 6 k ∧ M 6 k ≤ 2) ∧ (-1 ≤ M 7 k ∧ M 7 k ≤ 1) ∧ (0 ≤ M 8 k ∧ M 8 k < 200000)
/-- the law's arrays hold what the memory says -/
def LR (V M : MS) : Prop := (∀ k, 0 ≤ k → k < M 2 0 → EvB M k ∧ ((M 9 k = 1 ∧ V 0 k = -1) ∨ (M 9 k = 0 ∧ V 0 k = encE M k))) ∧ (∀ d, 0 ≤ d → d < 3 → V 1 d = M 11 d ∧ V 1 (3 + d) = M 12 d ∧ ∀ a, 0 ≤ a → a < 3 → V 1 (6 + 3 * d + a) = M 13 (10 * d + a)) ∧ (∀ i, 0 ≤ i → i < 6 → V 4 i = M 14 (4 * nn i) ∧ V 4 i ≤ 6 ∧ ∀ j, 0 ≤ j → j < V 4 i → V 3 (6 * i + j) = 2 * M 15 (20 * (4 * nn i) + j) + M 16 (20 * (4 * nn i) + j))
theorem LR.live {V M : MS} (hL : LR V M) {k : Int} (hk : 0 ≤ k ∧ k < M 2 0) (h9 : M 9 k = 0) : EvB M k ∧ V 0 k = encE M k ∧ 0 ≤ V 0 k ∧ V 0 k ≤ 1000000000000 := by
  obtain ⟨hB, h⟩ := hL.1 k hk.1 hk.2
  have e : V 0 k = encE M k := by
    rcases h with ⟨q, -⟩ | ⟨-, q⟩
    · omega
    · exact q
  obtain ⟨b4, b5, b6, b7, b8⟩ := id hB
  unfold encE at e
  exact ⟨hB, by unfold encE; exact e, by omega, by omega⟩
theorem LR.pt {V M : MS} (hL : LR V M) {k : Int} (hk : 0 ≤ k ∧ k < M 2 0) (h9 : M 9 k = 0) : ptF (V 0 k) 0 = M 4 k ∧ ptF (V 0 k) 1 = M 5 k ∧ ptF (V 0 k) 2 = M 6 k ∧ ptF (V 0 k) 3 = M 7 k ∧ ptF (V 0 k) 4 = M 8 k := by
  obtain ⟨⟨b4, b5, b6, b7, b8⟩, e, -⟩ := hL.live hk h9
  unfold encE at e
  have p0 : ptF (V 0 k) 0 = V 0 k % 4 := rfl
  have p1 : ptF (V 0 k) 1 = V 0 k / 4 % 4 - 1 := rfl
  have p2 : ptF (V 0 k) 2 = V 0 k / 16 % 8 := rfl
  have p3 : ptF (V 0 k) 3 = V 0 k / 128 % 16 - 1 := rfl
  have p4 : ptF (V 0 k) 4 = V 0 k / 2048 % 200000 := rfl
  rw [p0, p1, p2, p3, p4]
  refine ⟨?_, ?_, ?_, ?_, ?_⟩ <;> omega
theorem LR.gone {V M : MS} (hL : LR V M) {k : Int} (hk : 0 ≤ k ∧ k < M 2 0) : V 0 k < 0 ↔ M 9 k = 1 := by
  obtain ⟨hB, h⟩ := hL.1 k hk.1 hk.2
  rcases h with ⟨q, q2⟩ | ⟨q, q2⟩
  · omega
  · obtain ⟨-, -, q3, -⟩ := hL.live hk q
    omega
theorem td2 {a b : Int} (ha : 0 ≤ a) (hb : b = 0 ∨ b = 1) : (2 * a + b).tdiv 2 = a := by
  rw [Int.tdiv_eq_ediv_of_nonneg (by omega)]
  omega
theorem ndw {M : MS} {k : Int} (h : ¬ M 12 (M 4 k) = 0 ∧ ¬ M 5 k = -1) : ndOf M k = M 5 k := if_pos h
theorem ndn {M : MS} {k : Int} (h : ¬ (¬ M 12 (M 4 k) = 0 ∧ ¬ M 5 k = -1)) : ndOf M k = 10 + M 4 k := if_neg h
theorem nn_lo {i : Int} (h : i < 3) : nn i = i := if_pos h
theorem nn_hi {i : Int} (h : ¬ i < 3) : nn i = 7 + i := if_neg h
theorem nn_in {i : Int} (h : 0 ≤ i ∧ i < 6) : 0 ≤ nn i ∧ nn i < 20 := by
  unfold nn
  split <;> omega
set_option maxRecDepth 100000 in
set_option maxHeartbeats 400000 in
theorem k_L_low {l : Launch} {D : va_G} {cy : CY} (hst : l.stackTraces = false) {ba : Nat → Nat} {h : HS} {V : MS} {v n : Int} (hv : -2147483648 ≤ v ∧ v ≤ 2147483647) (hn0 : 0 < n ∧ n ≤ 2147483647) : Ct l D cy yL_low (Cond.code yL_low cL_low 2 (some .int)) 0 0 0 0 (LA cy ba) [vi v, vi n] (h, V) (fun r q' => r = .ok (some (vi (lwF v n))) ∧ q' = (h, V)) := by
  refine Ct.of1 (own := RL) hst (by decide) rfl (Nat.le_of_ble_eq_true rfl) (cat1 (vi_cat _) (cat1 (vi_cat _) (cat0))) ?_
  intro φ C hQ hn hR hl hD
  subst hl hD
  refine x_iload_n C dL_low_0 rfl rfl ?_
  refine x_ldc (z := 2147483647) C u3_13 (by decide) dL_low_1 ?_
  refine x_iand C dL_low_3 ?_
  refine x_iload_n C dL_low_4 rfl rfl ?_
  have ha := and_nn v
  refine x_irem C dL_low_5 (by first | omega | exact bi_rng _) (by first | omega | exact bi_rng _) ?_
  refine x_iret (ty := .int) C hQ dL_low_6 rfl rfl (by decide) (by decide) ?_
  exact ⟨rfl, rfl⟩

set_option maxRecDepth 100000 in
set_option maxHeartbeats 400000 in
theorem k_L_part {l : Launch} {D : va_G} {cy : CY} (hst : l.stackTraces = false) {ba : Nat → Nat} {h : HS} {V : MS} {k what : Int} (hk : 0 ≤ k ∧ k < 50) (hz : 0 ≤ V 0 k ∧ V 0 k ≤ 1000000000000) (hw : 0 ≤ what ∧ what ≤ 4) : Ct l D cy yL_part (Cond.code yL_part cL_part 3 (some .int)) 0 0 0 0 (LA cy ba) [vr (some (ba 0)), vi k, vi what] (h, V) (fun r q' => r = .ok (some (vi (ptF (V 0 k) what))) ∧ q' = (h, V)) := by
  refine Ct.of1 (own := RL) hst (by decide) rfl (Nat.le_of_ble_eq_true rfl) (cat1 (vr_cat _) (cat1 (vi_cat _) (cat1 (vi_cat _) (cat0)))) ?_
  intro φ C hQ hn hR hl hD
  subst hl hD
  refine x_iload_n C dL_part_0 rfl rfl ?_
  refine x_if_ne (tgt := 14) C dL_part_1 (by decide) (by first | omega | exact bi_rng _) (fun h1 => ?_) (fun h1 => ?_)
  ·
    refine x_iload_n C dL_part_14 rfl rfl ?_
    refine x_iconst C dL_part_15 ?_
    refine x_icmp_ne (tgt := 35) C dL_part_16 (by decide) (by first | omega | exact bi_rng _) (by first | omega | exact bi_rng _) (fun h16 => ?_) (fun h16 => ?_)
    ·
      refine x_iload_n C dL_part_35 rfl rfl ?_
      refine x_iconst C dL_part_36 ?_
      refine x_icmp_ne (tgt := 54) C dL_part_37 (by decide) (by first | omega | exact bi_rng _) (by first | omega | exact bi_rng _) (fun h37 => ?_) (fun h37 => ?_)
      ·
        refine x_iload_n C dL_part_54 rfl rfl ?_
        refine x_iconst C dL_part_55 ?_
        refine x_icmp_ne (tgt := 75) C dL_part_56 (by decide) (by first | omega | exact bi_rng _) (by first | omega | exact bi_rng _) (fun h56 => ?_) (fun h56 => ?_)
        ·
          refine x_aload_n C dL_part_75 rfl rfl ?_
          refine x_iload_n C dL_part_76 rfl rfl ?_
          refine a_lald C (by first | omega | exact bi_rng _) dL_part_77 ?_
          refine x_ldc2 (z := 2048) C u0_5 (by decide) dL_part_78 ?_
          refine x_ldiv C (by first | omega | exact bi_rng _) (by first | omega | exact bi_rng _) dL_part_81 ?_
          refine x_ldc2 (z := 200000) C u4_3 (by decide) dL_part_82 ?_
          refine x_lrem C (by first | omega | exact bi_rng _) (by first | omega | exact bi_rng _) dL_part_85 ?_
          refine x_l2i C dL_part_86 ?_
          refine x_iret (ty := .int) C hQ dL_part_87 rfl rfl (by decide) (by decide) ?_
          refine ⟨rv ?_, rfl⟩
          unfold ptF
          repeat (first | rw [if_pos (by omega)] | rw [if_neg (by omega)])
        ·
          refine x_aload_n C dL_part_59 rfl rfl ?_
          refine x_iload_n C dL_part_60 rfl rfl ?_
          refine a_lald C (by first | omega | exact bi_rng _) dL_part_61 ?_
          refine x_ldc2 (z := 128) C u4_2 (by decide) dL_part_62 ?_
          refine x_ldiv C (by first | omega | exact bi_rng _) (by first | omega | exact bi_rng _) dL_part_65 ?_
          refine x_ldc2 (z := 16) C u4_0 (by decide) dL_part_66 ?_
          refine x_lrem C (by first | omega | exact bi_rng _) (by first | omega | exact bi_rng _) dL_part_69 ?_
          refine x_lconst (z := 1) C dL_part_70 (by decide) ?_
          refine x_lsub C dL_part_71 ?_
          refine x_goto (tgt := 86) C dL_part_72 (by decide) ?_
          refine x_l2i C dL_part_86 ?_
          refine x_iret (ty := .int) C hQ dL_part_87 rfl rfl (by decide) (by decide) ?_
          refine ⟨rv ?_, rfl⟩
          unfold ptF
          repeat (first | rw [if_pos (by omega)] | rw [if_neg (by omega)])
      ·
        refine x_aload_n C dL_part_40 rfl rfl ?_
        refine x_iload_n C dL_part_41 rfl rfl ?_
        refine a_lald C (by first | omega | exact bi_rng _) dL_part_42 ?_
        refine x_ldc2 (z := 16) C u4_0 (by decide) dL_part_43 ?_
        refine x_ldiv C (by first | omega | exact bi_rng _) (by first | omega | exact bi_rng _) dL_part_46 ?_
        refine x_ldc2 (z := 8) C u4_1 (by decide) dL_part_47 ?_
        refine x_lrem C (by first | omega | exact bi_rng _) (by first | omega | exact bi_rng _) dL_part_50 ?_
        refine x_goto (tgt := 86) C dL_part_51 (by decide) ?_
        refine x_l2i C dL_part_86 ?_
        refine x_iret (ty := .int) C hQ dL_part_87 rfl rfl (by decide) (by decide) ?_
        refine ⟨rv ?_, rfl⟩
        unfold ptF
        repeat (first | rw [if_pos (by omega)] | rw [if_neg (by omega)])
    ·
      refine x_aload_n C dL_part_19 rfl rfl ?_
      refine x_iload_n C dL_part_20 rfl rfl ?_
      refine a_lald C (by first | omega | exact bi_rng _) dL_part_21 ?_
      refine x_ldc2 (z := 4) C u3_23 (by decide) dL_part_22 ?_
      refine x_ldiv C (by first | omega | exact bi_rng _) (by first | omega | exact bi_rng _) dL_part_25 ?_
      refine x_ldc2 (z := 4) C u3_23 (by decide) dL_part_26 ?_
      refine x_lrem C (by first | omega | exact bi_rng _) (by first | omega | exact bi_rng _) dL_part_29 ?_
      refine x_lconst (z := 1) C dL_part_30 (by decide) ?_
      refine x_lsub C dL_part_31 ?_
      refine x_goto (tgt := 86) C dL_part_32 (by decide) ?_
      refine x_l2i C dL_part_86 ?_
      refine x_iret (ty := .int) C hQ dL_part_87 rfl rfl (by decide) (by decide) ?_
      refine ⟨rv ?_, rfl⟩
      unfold ptF
      repeat (first | rw [if_pos (by omega)] | rw [if_neg (by omega)])
  ·
    refine x_aload_n C dL_part_4 rfl rfl ?_
    refine x_iload_n C dL_part_5 rfl rfl ?_
    refine a_lald C (by first | omega | exact bi_rng _) dL_part_6 ?_
    refine x_ldc2 (z := 4) C u3_23 (by decide) dL_part_7 ?_
    refine x_lrem C (by first | omega | exact bi_rng _) (by first | omega | exact bi_rng _) dL_part_10 ?_
    refine x_goto (tgt := 86) C dL_part_11 (by decide) ?_
    refine x_l2i C dL_part_86 ?_
    refine x_iret (ty := .int) C hQ dL_part_87 rfl rfl (by decide) (by decide) ?_
    refine ⟨rv ?_, rfl⟩
    unfold ptF
    repeat (first | rw [if_pos (by omega)] | rw [if_neg (by omega)])

set_option maxRecDepth 100000 in
set_option maxHeartbeats 400000 in
theorem k_L_isGone {l : Launch} {D : va_G} {cy : CY} (hst : l.stackTraces = false) {ba : Nat → Nat} {h : HS} {V : MS} {k : Int} (hk : 0 ≤ k ∧ k < 50) (hz : -1 ≤ V 0 k ∧ V 0 k ≤ 1000000000000) : Ct l D cy yL_isGone (Cond.code yL_isGone cL_isGone 2 (some .boolean)) 0 0 0 0 (LA cy ba) [vr (some (ba 0)), vi k] (h, V) (fun r q' => r = .ok (some (vi (bi (V 0 k < 0)))) ∧ q' = (h, V)) := by
  refine Ct.of1 (own := RL) hst (by decide) rfl (Nat.le_of_ble_eq_true rfl) (cat1 (vr_cat _) (cat1 (vi_cat _) (cat0))) ?_
  intro φ C hQ hn hR hl hD
  subst hl hD
  refine x_aload_n C dL_isGone_0 rfl rfl ?_
  refine x_iload_n C dL_isGone_1 rfl rfl ?_
  refine a_lald C (by first | omega | exact bi_rng _) dL_isGone_2 ?_
  refine x_lconst (z := 0) C dL_isGone_3 (by decide) ?_
  refine x_lcmp0 C (by first | omega | exact bi_rng _) dL_isGone_4 ?_
  have hg : (V 0 k < 0 ∧ (if 0 < V 0 k then (1 : Int) else if V 0 k = 0 then 0 else -1) = -1) ∨ (¬ V 0 k < 0 ∧ 0 ≤ (if 0 < V 0 k then (1 : Int) else if V 0 k = 0 then 0 else -1) ∧ (if 0 < V 0 k then (1 : Int) else if V 0 k = 0 then 0 else -1) ≤ 1) := by
    split
    · omega
    · split <;> omega
  generalize (if 0 < V 0 k then (1 : Int) else if V 0 k = 0 then 0 else -1) = g at hg ⊢
  refine x_if_ge (tgt := 12) C dL_isGone_5 (by decide) (by first | omega | exact bi_rng _) (fun h5 => ?_) (fun h5 => ?_)
  ·
    refine x_iconst C dL_isGone_12 ?_
    refine x_iret (ty := .boolean) C hQ dL_isGone_13 rfl (by decide) (by decide) (by decide) ?_
    exact ⟨rv (by simp only [bi]; split <;> omega), rfl⟩
  ·
    refine x_iconst C dL_isGone_8 ?_
    refine x_goto (tgt := 13) C dL_isGone_9 (by decide) ?_
    refine x_iret (ty := .boolean) C hQ dL_isGone_13 rfl (by decide) (by decide) (by decide) ?_
    exact ⟨rv (by simp only [bi]; split <;> omega), rfl⟩

theorem kp0 {l : Launch} {D : va_G} {cy : CY} (hst : l.stackTraces = false) {ba : Nat → Nat} {h : HS} {V : MS} {M : MS} (hL : LR V M) (hN : M 2 0 ≤ 50) {k : Int} (hk : 0 ≤ k ∧ k < M 2 0) (h9 : M 9 k = 0) : Ct l D cy yL_part (Cond.code yL_part cL_part 3 (some .int)) 0 0 0 0 (LA cy ba) [vr (some (ba 0)), vi k, vi 0] (h, V) (fun r q' => r = .ok (some (vi (M 4 k))) ∧ q' = (h, V)) := by
  have hz := (hL.live hk h9).2.2
  have hp := hL.pt hk h9
  refine Ct.weaken (k_L_part hst (by omega) hz (by decide)) (fun r q h9 => ?_)
  rw [hp.1] at h9
  exact h9

theorem kp1 {l : Launch} {D : va_G} {cy : CY} (hst : l.stackTraces = false) {ba : Nat → Nat} {h : HS} {V : MS} {M : MS} (hL : LR V M) (hN : M 2 0 ≤ 50) {k : Int} (hk : 0 ≤ k ∧ k < M 2 0) (h9 : M 9 k = 0) : Ct l D cy yL_part (Cond.code yL_part cL_part 3 (some .int)) 0 0 0 0 (LA cy ba) [vr (some (ba 0)), vi k, vi 1] (h, V) (fun r q' => r = .ok (some (vi (M 5 k))) ∧ q' = (h, V)) := by
  have hz := (hL.live hk h9).2.2
  have hp := hL.pt hk h9
  refine Ct.weaken (k_L_part hst (by omega) hz (by decide)) (fun r q h9 => ?_)
  rw [hp.2.1] at h9
  exact h9

theorem kp2 {l : Launch} {D : va_G} {cy : CY} (hst : l.stackTraces = false) {ba : Nat → Nat} {h : HS} {V : MS} {M : MS} (hL : LR V M) (hN : M 2 0 ≤ 50) {k : Int} (hk : 0 ≤ k ∧ k < M 2 0) (h9 : M 9 k = 0) : Ct l D cy yL_part (Cond.code yL_part cL_part 3 (some .int)) 0 0 0 0 (LA cy ba) [vr (some (ba 0)), vi k, vi 2] (h, V) (fun r q' => r = .ok (some (vi (M 6 k))) ∧ q' = (h, V)) := by
  have hz := (hL.live hk h9).2.2
  have hp := hL.pt hk h9
  refine Ct.weaken (k_L_part hst (by omega) hz (by decide)) (fun r q h9 => ?_)
  rw [hp.2.2.1] at h9
  exact h9

theorem kp3 {l : Launch} {D : va_G} {cy : CY} (hst : l.stackTraces = false) {ba : Nat → Nat} {h : HS} {V : MS} {M : MS} (hL : LR V M) (hN : M 2 0 ≤ 50) {k : Int} (hk : 0 ≤ k ∧ k < M 2 0) (h9 : M 9 k = 0) : Ct l D cy yL_part (Cond.code yL_part cL_part 3 (some .int)) 0 0 0 0 (LA cy ba) [vr (some (ba 0)), vi k, vi 3] (h, V) (fun r q' => r = .ok (some (vi (M 7 k))) ∧ q' = (h, V)) := by
  have hz := (hL.live hk h9).2.2
  have hp := hL.pt hk h9
  refine Ct.weaken (k_L_part hst (by omega) hz (by decide)) (fun r q h9 => ?_)
  rw [hp.2.2.2.1] at h9
  exact h9

theorem kp4 {l : Launch} {D : va_G} {cy : CY} (hst : l.stackTraces = false) {ba : Nat → Nat} {h : HS} {V : MS} {M : MS} (hL : LR V M) (hN : M 2 0 ≤ 50) {k : Int} (hk : 0 ≤ k ∧ k < M 2 0) (h9 : M 9 k = 0) : Ct l D cy yL_part (Cond.code yL_part cL_part 3 (some .int)) 0 0 0 0 (LA cy ba) [vr (some (ba 0)), vi k, vi 4] (h, V) (fun r q' => r = .ok (some (vi (M 8 k))) ∧ q' = (h, V)) := by
  have hz := (hL.live hk h9).2.2
  have hp := hL.pt hk h9
  refine Ct.weaken (k_L_part hst (by omega) hz (by decide)) (fun r q h9 => ?_)
  rw [hp.2.2.2.2] at h9
  exact h9

theorem kg {l : Launch} {D : va_G} {cy : CY} (hst : l.stackTraces = false) {ba : Nat → Nat} {h : HS} {V : MS} {M : MS} (hL : LR V M) (hN : M 2 0 ≤ 50) {k : Int} (hk : 0 ≤ k ∧ k < M 2 0) : Ct l D cy yL_isGone (Cond.code yL_isGone cL_isGone 2 (some .boolean)) 0 0 0 0 (LA cy ba) [vr (some (ba 0)), vi k] (h, V) (fun r q' => r = .ok (some (vi (bi (M 9 k = 1)))) ∧ q' = (h, V)) := by
  have hz : -1 ≤ V 0 k ∧ V 0 k ≤ 1000000000000 := by
    obtain ⟨-, g⟩ := hL.1 k hk.1 hk.2
    rcases g with ⟨g1, g2⟩ | ⟨g1, -⟩
    · omega
    · have := hL.live hk g1; omega
  refine Ct.weaken (k_L_isGone hst (by omega) hz) (fun r q h9 => ?_)
  rw [bi_congr (hL.gone hk)] at h9
  exact h9

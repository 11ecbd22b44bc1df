/-! tell and forget of the reference: what they leave -/
theorem chB_cong {M M' : MS} (h : M' 15 = M 15) (row t : Int) : ∀ i : Nat, chB M' row t i = chB M row t i := by
  intro i
  induction i with
  | zero => rfl
  | succ i ih => simp only [chB, h, ih]
theorem chG_cong {M M' : MS} (h : M' 15 = M 15) (h2 : M' 16 = M 16) (row t : Int) : ∀ i : Nat, chG M' row t i = chG M row t i := by
  intro i
  induction i with
  | zero => rfl
  | succ i ih => simp only [chG, chB_cong h, h, h2, ih]
/-- rows that sums read -/
def SR (M M' : MS) : Prop := M' 1 = M 1 ∧ M' 2 = M 2 ∧ M' 4 = M 4 ∧ M' 5 = M 5 ∧ M' 6 = M 6 ∧ M' 8 = M 8 ∧ M' 9 = M 9 ∧ M' 11 = M 11 ∧ M' 12 = M 12 ∧ M' 14 = M 14 ∧ M' 15 = M 15 ∧ M' 16 = M 16 ∧ M' 18 = M 18 ∧ M' 19 = M 19 ∧ M' 20 = M 20 ∧ M' 21 = M 21 ∧ M' 27 = M 27
theorem SR.tm {M M' : MS} (h : SR M M') (e : Int) : tmOf M' e = tmOf M e := by
  obtain ⟨h1, h2, h4, h5, h6, h8, h9, h11, h12, h14, h15, h16, -⟩ := h
  simp only [tmOf, h8, h11, h4]
theorem SR.nd {M M' : MS} (h : SR M M') (e : Int) : ndOf M' e = ndOf M e := by
  obtain ⟨h1, h2, h4, h5, h6, h8, h9, h11, h12, h14, h15, h16, -⟩ := h
  simp only [ndOf, h12, h5, h4]
theorem SR.row {M M' : MS} (h : SR M M') (e p : Int) : rowOf M' e p = rowOf M e p := by
  obtain ⟨h1, h2, h4, h5, h6, h8, h9, h11, h12, h14, h15, h16, -⟩ := h
  simp only [rowOf, h5, h4]
theorem SR.ins {M M' : MS} (h : SR M M') (node p what minute days e : Int) : inS M' node p what minute days e ↔ inS M node p what minute days e := by
  have t := h.tm e
  have n := h.nd e
  have r := h.row e p
  obtain ⟨h1, h2, h4, h5, h6, h8, h9, h11, h12, h14, h15, h16, h18, h19, h20, h21, h27⟩ := h
  simp only [inS, blg, cnt, t, n, r, h9, h27, h6, h14, chG_cong h15 h16]
theorem SR.sum {M M' : MS} (h : SR M M') (node p what minute days : Int) : ∀ i : Nat, sumF M' node p what minute days i = sumF M node p what minute days i := by
  intro i
  induction i with
  | zero => rfl
  | succ i ih =>
    simp only [sumF, ih]
    by_cases hc : inS M node p what minute days i
    · rw [if_pos hc, if_pos ((h.ins ..).mpr hc)]
    · rw [if_neg hc, if_neg (fun g => hc ((h.ins ..).mp g))]
abbrev memb (M : MS) (g node : Int) : Prop := M 20 g ≤ sumF M node (M 18 g) (M 19 g) (M 1 0) (M 21 g) (M 2 0).toNat
theorem SR.mem {M M' : MS} (h : SR M M') (g node : Int) : memb M' g node ↔ memb M g node := by
  have hs := fun p what minute days i => h.sum node p what minute days i
  obtain ⟨h1, h2, h4, h5, h6, h8, h9, h11, h12, h14, h15, h16, h18, h19, h20, h21, h27⟩ := h
  simp only [memb, hs, h20, h18, h19, h1, h21, h2]
abbrev chg (M : MS) (i : Nat) : Prop := ¬ bi (memb M ((i / 20 : Nat) : Int) ((i % 20 : Nat) : Int)) = M 22 i ∧ (¬ M 22 i = 0 ∨ ¬ M 23 ((i % 20 : Nat) : Int) = 0)
def chV (M : MS) (i : Nat) : Int := 100 * ((i / 20 : Nat) : Int) + ((i % 20 : Nat) : Int) + (if M 22 i = 0 then 0 else 1000)
def chgs (M : MS) : Nat → List Int
  | 0 => []
  | i + 1 => if chg M i then chgs M i ++ [chV M i] else chgs M i
theorem chgs_len (M : MS) : ∀ i : Nat, (chgs M i).length ≤ i := by
  intro i
  induction i with
  | zero => exact Nat.le_refl 0
  | succ i ih =>
    simp only [chgs]
    split
    · rw [List.length_append]; simp only [List.length_singleton]; omega
    · omega
/-- where tell stands, i places done -/
def TI (M M' : MS) (i : Nat) : Prop := (∀ k, k ≠ 22 → k ≠ 24 → k ≠ 25 → M' k = M k) ∧ M' 24 0 = ((chgs M i).length : Int) ∧ (∀ j : Nat, j < (chgs M i).length → (chgs M i)[j]? = some (M' 25 j)) ∧ ∀ j : Int, M' 22 j = if 0 ≤ j ∧ j < i ∧ chg M j.toNat then 1 - M 22 j else M 22 j
theorem TI.sr {M M' : MS} {i : Nat} (h : TI M M' i) : SR M M' := by
  obtain ⟨h, -⟩ := h
  refine ⟨?_, ?_, ?_, ?_, ?_, ?_, ?_, ?_, ?_, ?_, ?_, ?_, ?_, ?_, ?_, ?_, ?_⟩ <;> exact h _ (by decide) (by decide) (by decide)
theorem TI.mi {M M' : MS} {i : Nat} (hM : MI M) (h : TI M M' i) (hi : i ≤ 160) : MI M' := by
  have hl := chgs_len M i
  have hb : ∀ j : Int, M' 22 j = 0 ∨ M' 22 j = 1 := fun j => by
    rw [h.2.2.2 j]
    have := hM.b22 j
    split <;> omega
  have e24 := h.2.1
  have hk := h.1
  unfold MI MEv MGr
  rw [hk 2 (by decide) (by decide) (by decide), hk 1 (by decide) (by decide) (by decide), hk 3 (by decide) (by decide) (by decide), hk 4 (by decide) (by decide) (by decide), hk 5 (by decide) (by decide) (by decide), hk 6 (by decide) (by decide) (by decide), hk 7 (by decide) (by decide) (by decide), hk 8 (by decide) (by decide) (by decide), hk 11 (by decide) (by decide) (by decide), hk 14 (by decide) (by decide) (by decide), hk 15 (by decide) (by decide) (by decide), hk 17 (by decide) (by decide) (by decide), hk 18 (by decide) (by decide) (by decide), hk 19 (by decide) (by decide) (by decide), hk 20 (by decide) (by decide) (by decide), hk 21 (by decide) (by decide) (by decide), hk 27 (by decide) (by decide) (by decide)]
  refine ⟨hM.n, hM.now, hM.ev, hM.sk, hM.ch, hM.cf, hM.gn, hM.gr, by omega, hM.low, fun k j hkk => ?_⟩
  by_cases e : k = 22
  · subst e; exact hb j
  · rw [hk k e (by rcases hkk with rfl | rfl | rfl | rfl | rfl | rfl | rfl <;> decide) (by rcases hkk with rfl | rfl | rfl | rfl | rfl | rfl | rfl <;> decide)]
    exact hM.b k j hkk
theorem TI.no {M M' : MS} {i : Nat} (h : TI M M' i) (hn : ¬ chg M i) : TI M M' (i + 1) := by
  have e : chgs M (i + 1) = chgs M i := by simp only [chgs]; rw [if_neg hn]
  refine ⟨h.1, by rw [e]; exact h.2.1, by rw [e]; exact h.2.2.1, fun j => ?_⟩
  rw [h.2.2.2 j]
  by_cases hj : 0 ≤ j ∧ j < i ∧ chg M j.toNat
  · rw [if_pos hj, if_pos ⟨hj.1, by omega, hj.2.2⟩]
  · rw [if_neg hj, if_neg (fun q => hj ⟨q.1, by
      by_cases e9 : j = i
      · exact absurd (show chg M i by have := q.2.2; rw [e9, Int.toNat_natCast] at this; exact this) hn
      · omega, q.2.2⟩)]
theorem TI.yes {M M' : MS} {i : Nat} {v is p : Int} (hM : MI M) (h : TI M M' i) (hc : chg M i) (hv : v = chV M i) (his : is = 1 - M 22 i) (hp : p = i) : TI M (mset (mset (mset M' 25 (M' 24 0) v) 24 0 (M' 24 0 + 1)) 22 p is) (i + 1) := by
  have e : chgs M (i + 1) = chgs M i ++ [chV M i] := by simp only [chgs]; rw [if_pos hc]
  subst hp
  refine ⟨fun k h1 h2 h3 => ?_, ?_, ?_, fun j => ?_⟩
  · rw [mset_row h1, mset_row h2, mset_row h3]; exact h.1 k h1 h2 h3
  · rw [mset_ne (by decide), mset_eq, e, List.length_append, h.2.1]
    simp only [List.length_singleton]
    omega
  · intro j hj
    rw [e, List.length_append] at hj
    simp only [List.length_singleton] at hj
    rw [mset_ne (by decide), mset_ne (by decide), mset_at, e, h.2.1]
    by_cases hj2 : j < (chgs M i).length
    · rw [if_neg (by omega), List.getElem?_append_left hj2]
      exact h.2.2.1 j hj2
    · rw [if_pos (by omega), List.getElem?_append_right (by omega), hv]
      have : j - (chgs M i).length = 0 := by omega
      rw [this]; rfl
  · rw [mset_at, mset_ne (by decide), mset_ne (by decide), h.2.2.2 j]
    by_cases hj : j = i
    · subst hj
      rw [if_pos rfl, if_pos ⟨by omega, by omega, by rw [Int.toNat_natCast]; exact hc⟩, his]
    · rw [if_neg hj]
      by_cases hj2 : 0 ≤ j ∧ j < i ∧ chg M j.toNat
      · rw [if_pos hj2, if_pos ⟨hj2.1, by omega, hj2.2.2⟩]
      · rw [if_neg hj2, if_neg (fun q => hj2 ⟨q.1, by omega, q.2.2⟩)]
/-- what tell leaves, M being the memory behind finds -/
def TellR (M M' : MS) : Prop := (∀ k, k ≠ 22 → k ≠ 24 → k ≠ 25 → k ≠ 26 → M' k = M k) ∧ M' 24 0 = ((chgs M (20 * (M 17 0).toNat)).length : Int) ∧ M' 26 0 = M 26 0 + ((chgs M (20 * (M 17 0).toNat)).length : Int) ∧ (∀ j : Nat, j < (chgs M (20 * (M 17 0).toNat)).length → (chgs M (20 * (M 17 0).toNat))[j]? = some (M' 25 j)) ∧ ∀ j : Int, M' 22 j = if 0 ≤ j ∧ j < 20 * M 17 0 ∧ chg M j.toNat then 1 - M 22 j else M 22 j
/-- where forget stands -/
def FI (M M' : MS) (node : Int) (i : Nat) : Prop := (∀ k, k ≠ 9 → M' k = M k) ∧ ∀ j : Int, M' 9 j = if 0 ≤ j ∧ j < i ∧ blg M j node then 1 else M 9 j
def FC (M M' : MS) (node : Int) (r : Int) : Prop := (∀ k, k ≠ 14 → M' k = M k) ∧ ∀ j : Int, M' 14 j = if 0 ≤ j ∧ j < r ∧ M 27 (j / 4) = M 27 node then 0 else M 14 j
theorem FI.nd {M M' : MS} {node : Int} {i : Nat} (h : FI M M' node i) (e : Int) : ndOf M' e = ndOf M e := by
  simp only [ndOf, h.1 12 (by decide), h.1 5 (by decide), h.1 4 (by decide)]
theorem FI.mi {M M' : MS} {node : Int} {i : Nat} (hM : MI M) (h : FI M M' node i) : MI M' := by
  have hb : ∀ j : Int, M' 9 j = 0 ∨ M' 9 j = 1 := fun j => by
    rw [h.2 j]
    have := hM.b9 j
    split <;> omega
  have hk := h.1
  unfold MI MEv MGr
  rw [hk 2 (by decide), hk 1 (by decide), hk 3 (by decide), hk 4 (by decide), hk 5 (by decide), hk 6 (by decide), hk 7 (by decide), hk 8 (by decide), hk 11 (by decide), hk 14 (by decide), hk 15 (by decide), hk 17 (by decide), hk 18 (by decide), hk 19 (by decide), hk 20 (by decide), hk 21 (by decide), hk 24 (by decide), hk 27 (by decide)]
  refine ⟨hM.n, hM.now, hM.ev, hM.sk, hM.ch, hM.cf, hM.gn, hM.gr, hM.told, hM.low, fun k j hkk => ?_⟩
  by_cases e : k = 9
  · subst e; exact hb j
  · rw [hk k e]
    exact hM.b k j hkk
theorem FI.bl {M M' : MS} {node : Int} {i : Nat} (h : FI M M' node i) : (M' 9 i = 0 ∧ M' 27 (ndOf M' i) = M' 27 node) ↔ (M 9 i = 0 ∧ M 27 (ndOf M i) = M 27 node) := by
  have e1 := h.nd (i : Int)
  have e2 := h.1 27 (by decide)
  have e3 := h.2 i
  rw [if_neg (by omega)] at e3
  rw [e1, e2, e3]
theorem FI.set {M M' : MS} {node v : Int} {i : Nat} (hM : MI M) (h : FI M M' node i) (hv : v = if M' 9 i = 0 then bi (M 9 i = 0 ∧ M 27 (ndOf M i) = M 27 node) else 1) : FI M (mset M' 9 i v) node (i + 1) := by
  have h9 := h.2 i
  rw [if_neg (by omega)] at h9
  refine ⟨fun k hk => by rw [mset_row hk]; exact h.1 k hk, fun j => ?_⟩
  rw [mset_at]
  by_cases hj : j = i
  · subst hj
    rw [if_pos rfl, hv, h9]
    have h01 := hM.b9 i
    by_cases hb : M 9 i = 0 ∧ M 27 (ndOf M i) = M 27 node
    · rw [if_pos hb.1, bi_t hb, if_pos ⟨by omega, by omega, hb⟩]
    · rw [if_neg (c := 0 ≤ (i : Int) ∧ (i : Int) < ((i + 1 : Nat) : Int) ∧ M 9 i = 0 ∧ M 27 (ndOf M i) = M 27 node) (fun q => hb q.2.2)]
      by_cases hz : M 9 i = 0
      · rw [if_pos hz, bi_f hb, hz]
      · rw [if_neg hz]; omega
  · rw [if_neg hj, h.2 j]
    by_cases hj2 : 0 ≤ j ∧ j < i ∧ M 9 j = 0 ∧ M 27 (ndOf M j) = M 27 node
    · rw [if_pos hj2, if_pos ⟨hj2.1, by omega, hj2.2.2⟩]
    · rw [if_neg hj2, if_neg (fun q => hj2 ⟨q.1, by omega, q.2.2⟩)]
theorem FC.set {M M' : MS} {node v : Int} {r : Int} (h : FC M M' node r) (h0 : 0 ≤ r) (hv : v = if M 27 (r / 4) = M 27 node then 0 else M 14 r) : FC M (mset M' 14 r v) node (r + 1) := by
  refine ⟨fun k hk => by rw [mset_row hk]; exact h.1 k hk, fun j => ?_⟩
  rw [mset_at]
  by_cases hj : j = r
  · subst hj
    rw [if_pos rfl, hv]
    by_cases hb : M 27 (j / 4) = M 27 node
    · rw [if_pos hb, if_pos ⟨h0, by omega, hb⟩]
    · rw [if_neg hb, if_neg (fun q => hb q.2.2)]
  · rw [if_neg hj, h.2 j]
    by_cases hj2 : 0 ≤ j ∧ j < r ∧ M 27 (j / 4) = M 27 node
    · rw [if_pos hj2, if_pos ⟨hj2.1, by omega, hj2.2.2⟩]
    · rw [if_neg hj2, if_neg (fun q => hj2 ⟨q.1, by omega, q.2.2⟩)]
/-- what forget leaves, M being the memory behind finds -/
def ForR (M M' : MS) (node : Int) : Prop := (∀ k, k ≠ 9 → k ≠ 14 → M' k = M k) ∧ (∀ j : Int, M' 9 j = if 0 ≤ j ∧ j < M 2 0 ∧ blg M j node then 1 else M 9 j) ∧ ∀ j : Int, M' 14 j = if 0 ≤ j ∧ j < 80 ∧ M 27 (j / 4) = M 27 node then 0 else M 14 j

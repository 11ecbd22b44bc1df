theorem MI.w11 {M : MS} (h : MI M) {j z : Int} (hz : -600 ≤ z ∧ z ≤ 600) : MI (mset M 11 j z) := by
  obtain ⟨a1, a2, a3, a4, a5, a6, a7, a8, a9, a10, a11⟩ := h
  refine ⟨a1, a2, a3, fun d h0 h1 => ?_, a5, a6, a7, a8, a9, a10, fun k j' hk => ?_⟩
  · rw [mset_at]
    split
    · exact hz
    · exact a4 d h0 h1
  · rw [mset_ne (by omega)]
    exact a11 k j' hk
theorem MI.w1 {M : MS} (h : MI M) {z : Int} (hz : 1440 ≤ z ∧ z ≤ 100000) : MI (mset M 1 0 z) := by
  obtain ⟨a1, a2, a3, a4, a5, a6, a7, a8, a9, a10, a11⟩ := h
  refine ⟨a1, ?_, a3, a4, a5, a6, a7, a8, a9, a10, fun k j' hk => ?_⟩
  · rw [mset_eq]
    exact hz
  · rw [mset_ne (by omega)]
    exact a11 k j' hk
theorem SP.w45 {h : HS} {A : AD} {M : MS} {d w : Int} (s : SP h A M) (hd9 : 0 ≤ d ∧ d < 10) (hw : -600 ≤ w ∧ w ≤ 600) : SP (setI h 45 (nd A (10 + d)) w) A (mset M 11 d w) := by
  refine ⟨s.mi.w11 hw, fun k h0 h1 => s.no k h0 h1, fun d' h0 h1 => ?_, fun e h0 h1 => s.ve e h0 h1⟩
  obtain ⟨b1, b2, b3⟩ := s.dv d' h0 h1
  refine ⟨b1, ?_, b3⟩
  rw [fI_setI, mset_at]
  by_cases hd2 : d' = d
  · subst hd2
    rw [if_pos ⟨rfl, rfl⟩, if_pos rfl]
  · rw [if_neg (fun q => hd2 (by have := (nd_inj s (by omega) (by omega) (by omega) (by omega)).mp q.2; omega)), if_neg hd2]
    exact b2

/-! The world after share -/
theorem MI.w12 {M : MS} (h : MI M) {j z : Int} (hz : z = 0 ∨ z = 1) : MI (mset M 12 j z) := by
  obtain ⟨a1, a2, a3, a4, a5, a6, a7, a8, a9, a10, a11⟩ := h
  refine ⟨a1, a2, a3, a4, a5, a6, a7, a8, a9, a10, fun k j' hk => ?_⟩
  by_cases hk2 : k = 12
  · subst hk2
    rw [mset_at]
    split
    · exact hz
    · exact a11 12 j' hk
  · rw [mset_ne hk2]
    exact a11 k j' hk
theorem SP.w44 {h : HS} {A : AD} {M : MS} {d w : Int} (s : SP h A M) (hd9 : 0 ≤ d ∧ d < 10) (hw : w = 0 ∨ w = 1) : SP (setI h 44 (nd A (10 + d)) w) A (mset M 12 d w) := by
  refine ⟨s.mi.w12 hw, fun k h0 h1 => s.no k h0 h1, fun d' h0 h1 => ?_, fun e h0 h1 => s.ve e h0 h1⟩
  obtain ⟨b1, b2, b3⟩ := s.dv d' h0 h1
  refine ⟨?_, b2, b3⟩
  rw [fI_setI, mset_at]
  by_cases hd2 : d' = d
  · subst hd2
    rw [if_pos ⟨rfl, rfl⟩, if_pos rfl]
  · rw [if_neg (fun q => hd2 (by have := (nd_inj s (by omega) (by omega) (by omega) (by omega)).mp q.2; omega)), if_neg hd2]
    exact b1

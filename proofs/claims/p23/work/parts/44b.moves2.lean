theorem MI.w13 {M : MS} (h : MI M) {j z : Int} (hz : z = 0 ∨ z = 1) : MI (mset M 13 j z) := by
  obtain ⟨a1, a2, a3, a4, a5, a6, a7, a8, a9, a10, a11⟩ := h
  refine ⟨a1, a2, a3, a4, a5, a6, a7, a8, a9, a10, fun k j' hk => ?_⟩
  by_cases hk2 : k = 13
  · subst hk2
    rw [mset_at]
    split
    · exact hz
    · exact a11 13 j' hk
  · rw [mset_ne hk2]
    exact a11 k j' hk
theorem SP.w43 {h : HS} {A : AD} {M : MS} {d a w : Int} (s : SP h A M) (hd9 : 0 ≤ d ∧ d < 10) (ha : 0 ≤ a ∧ a < 10) (hw : w = 0 ∨ w = 1) : SP (setI h 43 (nd A (10 + d)) (mlV h A d a w)) A (mset M 13 (10 * d + a) (1 - w)) := by
  refine ⟨s.mi.w13 (by omega), fun k h0 h1 => s.no k h0 h1, fun d' h0 h1 => ?_, fun e h0 h1 => s.ve e h0 h1⟩
  obtain ⟨b1, b2, b3⟩ := s.dv d' h0 h1
  refine ⟨b1, b2, ?_⟩
  rw [fI_setI]
  by_cases hd2 : d' = d
  · subst hd2
    rw [if_pos ⟨rfl, rfl⟩]
    obtain ⟨n, hn⟩ : ∃ n : Nat, (n : Int) = a := ⟨a.toNat, Int.toNat_of_nonneg ha.1⟩
    subst hn
    rcases hw with q | q
    · subst q
      show BW (if (0 : Int) = 0 then _ else _) _
      rw [if_pos rfl]
      refine (bw_or b3 n (by omega)).cong (fun j hj => ?_)
      rw [mset_at]
      by_cases hjn : (j : Int) = n
      · rw [if_pos (by omega)]
        constructor
        · intro _
          omega
        · intro _
          exact Or.inr hjn
      · rw [if_neg (by omega)]
        constructor
        · intro g
          rcases g with g | g
          · exact g
          · exact absurd g hjn
        · intro g
          exact Or.inl g
    · subst q
      show BW (if (1 : Int) = 0 then _ else _) _
      rw [if_neg (by decide)]
      refine (bw_off b3 n (by omega)).cong (fun j hj => ?_)
      rw [mset_at]
      by_cases hjn : (j : Int) = n
      · rw [if_pos (by omega)]
        constructor
        · intro g
          exact absurd hjn g.2
        · intro g
          omega
      · rw [if_neg (by omega)]
        constructor
        · intro g
          exact g.1
        · intro g
          exact ⟨g, hjn⟩
  · rw [if_neg (fun q => hd2 (by have := (nd_inj s (by omega) (by omega) (by omega) (by omega)).mp q.2; omega))]
    refine b3.cong (fun j hj => ?_)
    rw [mset_at]
    by_cases hj9 : (j : Int) < 10
    · rw [if_neg (by omega)]
    · constructor
      · intro g
        omega
      · intro g
        omega

/-! What the reference's memory is after event, group, consent -/
theorem ev_o1 {M : MS} {its dv who what frm time : Int} : evM M its dv who what frm time 1 = M 1 := by
  funext j
  unfold evM
  split <;> simp [mset]
theorem ev_o9 {M : MS} {its dv who what frm time : Int} : evM M its dv who what frm time 9 = M 9 := by
  funext j
  unfold evM
  split <;> simp [mset]
theorem ev_o11 {M : MS} {its dv who what frm time : Int} : evM M its dv who what frm time 11 = M 11 := by
  funext j
  unfold evM
  split <;> simp [mset]
theorem ev_o12 {M : MS} {its dv who what frm time : Int} : evM M its dv who what frm time 12 = M 12 := by
  funext j
  unfold evM
  split <;> simp [mset]
theorem ev_o13 {M : MS} {its dv who what frm time : Int} : evM M its dv who what frm time 13 = M 13 := by
  funext j
  unfold evM
  split <;> simp [mset]
theorem ev_o14 {M : MS} {its dv who what frm time : Int} : evM M its dv who what frm time 14 = M 14 := by
  funext j
  unfold evM
  split <;> simp [mset]
theorem ev_o15 {M : MS} {its dv who what frm time : Int} : evM M its dv who what frm time 15 = M 15 := by
  funext j
  unfold evM
  split <;> simp [mset]
theorem ev_o16 {M : MS} {its dv who what frm time : Int} : evM M its dv who what frm time 16 = M 16 := by
  funext j
  unfold evM
  split <;> simp [mset]
theorem ev_o17 {M : MS} {its dv who what frm time : Int} : evM M its dv who what frm time 17 = M 17 := by
  funext j
  unfold evM
  split <;> simp [mset]
theorem ev_o18 {M : MS} {its dv who what frm time : Int} : evM M its dv who what frm time 18 = M 18 := by
  funext j
  unfold evM
  split <;> simp [mset]
theorem ev_o19 {M : MS} {its dv who what frm time : Int} : evM M its dv who what frm time 19 = M 19 := by
  funext j
  unfold evM
  split <;> simp [mset]
theorem ev_o20 {M : MS} {its dv who what frm time : Int} : evM M its dv who what frm time 20 = M 20 := by
  funext j
  unfold evM
  split <;> simp [mset]
theorem ev_o21 {M : MS} {its dv who what frm time : Int} : evM M its dv who what frm time 21 = M 21 := by
  funext j
  unfold evM
  split <;> simp [mset]
theorem ev_o22 {M : MS} {its dv who what frm time : Int} : evM M its dv who what frm time 22 = M 22 := by
  funext j
  unfold evM
  split <;> simp [mset]
theorem ev_o24 {M : MS} {its dv who what frm time : Int} : evM M its dv who what frm time 24 = M 24 := by
  funext j
  unfold evM
  split <;> simp [mset]
theorem ev_o25 {M : MS} {its dv who what frm time : Int} : evM M its dv who what frm time 25 = M 25 := by
  funext j
  unfold evM
  split <;> simp [mset]
theorem ev_o26 {M : MS} {its dv who what frm time : Int} : evM M its dv who what frm time 26 = M 26 := by
  funext j
  unfold evM
  split <;> simp [mset]
theorem ev_o27 {M : MS} {its dv who what frm time : Int} : evM M its dv who what frm time 27 = M 27 := by
  funext j
  unfold evM
  split <;> simp [mset]
theorem ev_n3 {M : MS} {its dv who what frm time : Int} : evM M its dv who what frm time 3 (M 2 0) = its := by
  unfold evM
  split <;> simp [mset]
theorem ev_s3 {M : MS} {its dv who what frm time : Int} {e : Int} (he : e < M 2 0) : evM M its dv who what frm time 3 e = M 3 e := by
  have h1 : ¬ e = M 2 0 := by omega
  unfold evM
  split <;> simp [mset, h1]
theorem ev_n4 {M : MS} {its dv who what frm time : Int} : evM M its dv who what frm time 4 (M 2 0) = dv := by
  unfold evM
  split <;> simp [mset]
theorem ev_s4 {M : MS} {its dv who what frm time : Int} {e : Int} (he : e < M 2 0) : evM M its dv who what frm time 4 e = M 4 e := by
  have h1 : ¬ e = M 2 0 := by omega
  unfold evM
  split <;> simp [mset, h1]
theorem ev_n5 {M : MS} {its dv who what frm time : Int} : evM M its dv who what frm time 5 (M 2 0) = who := by
  unfold evM
  split <;> simp [mset]
theorem ev_s5 {M : MS} {its dv who what frm time : Int} {e : Int} (he : e < M 2 0) : evM M its dv who what frm time 5 e = M 5 e := by
  have h1 : ¬ e = M 2 0 := by omega
  unfold evM
  split <;> simp [mset, h1]
theorem ev_n6 {M : MS} {its dv who what frm time : Int} : evM M its dv who what frm time 6 (M 2 0) = what := by
  unfold evM
  split <;> simp [mset]
theorem ev_s6 {M : MS} {its dv who what frm time : Int} {e : Int} (he : e < M 2 0) : evM M its dv who what frm time 6 e = M 6 e := by
  have h1 : ¬ e = M 2 0 := by omega
  unfold evM
  split <;> simp [mset, h1]
theorem ev_n7 {M : MS} {its dv who what frm time : Int} : evM M its dv who what frm time 7 (M 2 0) = frm := by
  unfold evM
  split <;> simp [mset]
theorem ev_s7 {M : MS} {its dv who what frm time : Int} {e : Int} (he : e < M 2 0) : evM M its dv who what frm time 7 e = M 7 e := by
  have h1 : ¬ e = M 2 0 := by omega
  unfold evM
  split <;> simp [mset, h1]
theorem ev_n8 {M : MS} {its dv who what frm time : Int} : evM M its dv who what frm time 8 (M 2 0) = time := by
  unfold evM
  split <;> simp [mset]
theorem ev_s8 {M : MS} {its dv who what frm time : Int} {e : Int} (he : e < M 2 0) : evM M its dv who what frm time 8 e = M 8 e := by
  have h1 : ¬ e = M 2 0 := by omega
  unfold evM
  split <;> simp [mset, h1]
theorem ev_2 {M : MS} {its dv who what frm time : Int} : evM M its dv who what frm time 2 0 = M 2 0 + 1 := by
  unfold evM
  split <;> simp [mset]
theorem ev_10 {M : MS} {its dv who what frm time : Int} (j : Int) : evM M its dv who what frm time 10 j = if j = its then 1 else M 10 j := by
  unfold evM
  split <;> simp [mset]
theorem ev_23 {M : MS} {its dv who what frm time : Int} (j : Int) : evM M its dv who what frm time 23 j = if j = 10 + dv ∨ (j = who ∧ ¬ who = -1) then 1 else M 23 j := by
  unfold evM
  split
  · rename_i h
    simp [mset, h]
  · rename_i h
    by_cases h1 : j = who <;> by_cases h2 : j = 10 + dv <;> simp [mset, h, h1, h2]
    all_goals try (intro h3; simp_all)
theorem gr_o1 {M : MS} {p what least days : Int} : grpM M p what least days 1 = M 1 := by
  funext j
  simp [grpM, mset]
theorem gr_o2 {M : MS} {p what least days : Int} : grpM M p what least days 2 = M 2 := by
  funext j
  simp [grpM, mset]
theorem gr_o3 {M : MS} {p what least days : Int} : grpM M p what least days 3 = M 3 := by
  funext j
  simp [grpM, mset]
theorem gr_o4 {M : MS} {p what least days : Int} : grpM M p what least days 4 = M 4 := by
  funext j
  simp [grpM, mset]
theorem gr_o5 {M : MS} {p what least days : Int} : grpM M p what least days 5 = M 5 := by
  funext j
  simp [grpM, mset]
theorem gr_o6 {M : MS} {p what least days : Int} : grpM M p what least days 6 = M 6 := by
  funext j
  simp [grpM, mset]
theorem gr_o7 {M : MS} {p what least days : Int} : grpM M p what least days 7 = M 7 := by
  funext j
  simp [grpM, mset]
theorem gr_o8 {M : MS} {p what least days : Int} : grpM M p what least days 8 = M 8 := by
  funext j
  simp [grpM, mset]
theorem gr_o9 {M : MS} {p what least days : Int} : grpM M p what least days 9 = M 9 := by
  funext j
  simp [grpM, mset]
theorem gr_o10 {M : MS} {p what least days : Int} : grpM M p what least days 10 = M 10 := by
  funext j
  simp [grpM, mset]
theorem gr_o11 {M : MS} {p what least days : Int} : grpM M p what least days 11 = M 11 := by
  funext j
  simp [grpM, mset]
theorem gr_o12 {M : MS} {p what least days : Int} : grpM M p what least days 12 = M 12 := by
  funext j
  simp [grpM, mset]
theorem gr_o13 {M : MS} {p what least days : Int} : grpM M p what least days 13 = M 13 := by
  funext j
  simp [grpM, mset]
theorem gr_o14 {M : MS} {p what least days : Int} : grpM M p what least days 14 = M 14 := by
  funext j
  simp [grpM, mset]
theorem gr_o15 {M : MS} {p what least days : Int} : grpM M p what least days 15 = M 15 := by
  funext j
  simp [grpM, mset]
theorem gr_o16 {M : MS} {p what least days : Int} : grpM M p what least days 16 = M 16 := by
  funext j
  simp [grpM, mset]
theorem gr_o22 {M : MS} {p what least days : Int} : grpM M p what least days 22 = M 22 := by
  funext j
  simp [grpM, mset]
theorem gr_o23 {M : MS} {p what least days : Int} : grpM M p what least days 23 = M 23 := by
  funext j
  simp [grpM, mset]
theorem gr_o24 {M : MS} {p what least days : Int} : grpM M p what least days 24 = M 24 := by
  funext j
  simp [grpM, mset]
theorem gr_o25 {M : MS} {p what least days : Int} : grpM M p what least days 25 = M 25 := by
  funext j
  simp [grpM, mset]
theorem gr_o26 {M : MS} {p what least days : Int} : grpM M p what least days 26 = M 26 := by
  funext j
  simp [grpM, mset]
theorem gr_o27 {M : MS} {p what least days : Int} : grpM M p what least days 27 = M 27 := by
  funext j
  simp [grpM, mset]
theorem gr_n18 {M : MS} {p what least days : Int} : grpM M p what least days 18 (M 17 0) = p := by simp [grpM, mset]
theorem gr_s18 {M : MS} {p what least days : Int} {e : Int} (he : e < M 17 0) : grpM M p what least days 18 e = M 18 e := by
  have h1 : ¬ e = M 17 0 := by omega
  simp [grpM, mset, h1]
theorem gr_n19 {M : MS} {p what least days : Int} : grpM M p what least days 19 (M 17 0) = what := by simp [grpM, mset]
theorem gr_s19 {M : MS} {p what least days : Int} {e : Int} (he : e < M 17 0) : grpM M p what least days 19 e = M 19 e := by
  have h1 : ¬ e = M 17 0 := by omega
  simp [grpM, mset, h1]
theorem gr_n20 {M : MS} {p what least days : Int} : grpM M p what least days 20 (M 17 0) = least := by simp [grpM, mset]
theorem gr_s20 {M : MS} {p what least days : Int} {e : Int} (he : e < M 17 0) : grpM M p what least days 20 e = M 20 e := by
  have h1 : ¬ e = M 17 0 := by omega
  simp [grpM, mset, h1]
theorem gr_n21 {M : MS} {p what least days : Int} : grpM M p what least days 21 (M 17 0) = days := by simp [grpM, mset]
theorem gr_s21 {M : MS} {p what least days : Int} {e : Int} (he : e < M 17 0) : grpM M p what least days 21 e = M 21 e := by
  have h1 : ¬ e = M 17 0 := by omega
  simp [grpM, mset, h1]
theorem gr_17 {M : MS} {p what least days : Int} : grpM M p what least days 17 0 = M 17 0 + 1 := by simp [grpM, mset]
theorem co_o1 {M : MS} {row frm is : Int} : conM M row frm is 1 = M 1 := by
  funext j
  simp [conM, mset]
theorem co_o2 {M : MS} {row frm is : Int} : conM M row frm is 2 = M 2 := by
  funext j
  simp [conM, mset]
theorem co_o3 {M : MS} {row frm is : Int} : conM M row frm is 3 = M 3 := by
  funext j
  simp [conM, mset]
theorem co_o4 {M : MS} {row frm is : Int} : conM M row frm is 4 = M 4 := by
  funext j
  simp [conM, mset]
theorem co_o5 {M : MS} {row frm is : Int} : conM M row frm is 5 = M 5 := by
  funext j
  simp [conM, mset]
theorem co_o6 {M : MS} {row frm is : Int} : conM M row frm is 6 = M 6 := by
  funext j
  simp [conM, mset]
theorem co_o7 {M : MS} {row frm is : Int} : conM M row frm is 7 = M 7 := by
  funext j
  simp [conM, mset]
theorem co_o8 {M : MS} {row frm is : Int} : conM M row frm is 8 = M 8 := by
  funext j
  simp [conM, mset]
theorem co_o9 {M : MS} {row frm is : Int} : conM M row frm is 9 = M 9 := by
  funext j
  simp [conM, mset]
theorem co_o10 {M : MS} {row frm is : Int} : conM M row frm is 10 = M 10 := by
  funext j
  simp [conM, mset]
theorem co_o11 {M : MS} {row frm is : Int} : conM M row frm is 11 = M 11 := by
  funext j
  simp [conM, mset]
theorem co_o12 {M : MS} {row frm is : Int} : conM M row frm is 12 = M 12 := by
  funext j
  simp [conM, mset]
theorem co_o13 {M : MS} {row frm is : Int} : conM M row frm is 13 = M 13 := by
  funext j
  simp [conM, mset]
theorem co_o17 {M : MS} {row frm is : Int} : conM M row frm is 17 = M 17 := by
  funext j
  simp [conM, mset]
theorem co_o18 {M : MS} {row frm is : Int} : conM M row frm is 18 = M 18 := by
  funext j
  simp [conM, mset]
theorem co_o19 {M : MS} {row frm is : Int} : conM M row frm is 19 = M 19 := by
  funext j
  simp [conM, mset]
theorem co_o20 {M : MS} {row frm is : Int} : conM M row frm is 20 = M 20 := by
  funext j
  simp [conM, mset]
theorem co_o21 {M : MS} {row frm is : Int} : conM M row frm is 21 = M 21 := by
  funext j
  simp [conM, mset]
theorem co_o22 {M : MS} {row frm is : Int} : conM M row frm is 22 = M 22 := by
  funext j
  simp [conM, mset]
theorem co_o23 {M : MS} {row frm is : Int} : conM M row frm is 23 = M 23 := by
  funext j
  simp [conM, mset]
theorem co_o24 {M : MS} {row frm is : Int} : conM M row frm is 24 = M 24 := by
  funext j
  simp [conM, mset]
theorem co_o25 {M : MS} {row frm is : Int} : conM M row frm is 25 = M 25 := by
  funext j
  simp [conM, mset]
theorem co_o26 {M : MS} {row frm is : Int} : conM M row frm is 26 = M 26 := by
  funext j
  simp [conM, mset]
theorem co_o27 {M : MS} {row frm is : Int} : conM M row frm is 27 = M 27 := by
  funext j
  simp [conM, mset]
theorem co_14 {M : MS} {row frm is : Int} (j : Int) : conM M row frm is 14 j = if j = row then M 14 row + 1 else M 14 j := by simp [conM, mset]
theorem co_15 {M : MS} {row frm is : Int} (j : Int) : conM M row frm is 15 j = if j = 20 * row + M 14 row then frm else M 15 j := by simp [conM, mset]
theorem co_16 {M : MS} {row frm is : Int} (j : Int) : conM M row frm is 16 j = if j = 20 * row + M 14 row then is else M 16 j := by simp [conM, mset]
theorem MI.ev2 {M : MS} {its dv who what frm time : Int} (h : MI M) (hn : M 2 0 < 200) (h1 : 0 ≤ its ∧ its ≤ 999) (h2 : 0 ≤ dv ∧ dv ≤ 9) (h3 : -1 ≤ who ∧ who ≤ 9) (h4 : 0 ≤ what ∧ what ≤ 4) (h5 : -1 ≤ frm ∧ frm ≤ 9) (h6 : 0 ≤ time ∧ time ≤ 100000) : MI (evM M its dv who what frm time) := by
  obtain ⟨a1, a2, a3, a4, a5, a6, a7, a8, a9, a10, a11⟩ := h
  refine ⟨by rw [ev_2]; omega, by rw [ev_o1]; exact a2, fun e e0 e1 => ?_, fun d d0 d1 => by rw [ev_o11]; exact a4 d d0 d1, fun r r0 r1 => by rw [ev_o14]; exact a5 r r0 r1, fun r k r0 r1 k0 k1 => by rw [ev_o14] at k1; rw [ev_o15]; exact a6 r k r0 r1 k0 k1, by rw [ev_o17]; exact a7, fun g g0 g1 => ?_, by rw [ev_o24]; exact a9, fun k k0 k1 => by rw [ev_o27]; exact a10 k k0 k1, fun k j hk => ?_⟩
  · rw [ev_2] at e1
    by_cases he : e = M 2 0
    · subst he
      simp only [MEv, ev_n3, ev_n4, ev_n5, ev_n6, ev_n7, ev_n8]
      exact ⟨h1, h2, h3, h4, h5, h6⟩
    · have he2 : e < M 2 0 := by omega
      have := a3 e e0 he2
      simp only [MEv, ev_s3 he2, ev_s4 he2, ev_s5 he2, ev_s6 he2, ev_s7 he2, ev_s8 he2]
      exact this
  · rw [ev_o17] at g1
    have := a8 g g0 g1
    simp only [MGr, ev_o18, ev_o19, ev_o20, ev_o21]
    exact this
  · have h9 := a11 k j hk
    rcases hk with rfl | rfl | rfl | rfl | rfl | rfl | rfl
    · rw [ev_o9]; exact h9
    · rw [ev_10]; split
      · exact Or.inr rfl
      · exact h9
    · rw [ev_o12]; exact h9
    · rw [ev_o13]; exact h9
    · rw [ev_o16]; exact h9
    · rw [ev_o22]; exact h9
    · rw [ev_23]; split
      · exact Or.inr rfl
      · exact h9
theorem MI.gr2 {M : MS} {p what least days : Int} (h : MI M) (hn : M 17 0 < 8) (h1 : 0 ≤ p ∧ p ≤ 3) (h2 : 0 ≤ what ∧ what ≤ 4) (h3 : 1 ≤ least ∧ least ≤ 20) (h4 : 1 ≤ days ∧ days ≤ 30) : MI (grpM M p what least days) := by
  obtain ⟨a1, a2, a3, a4, a5, a6, a7, a8, a9, a10, a11⟩ := h
  refine ⟨a1, a2, fun e e0 e1 => a3 e e0 e1, a4, a5, a6, by rw [gr_17]; omega, fun g g0 g1 => ?_, a9, a10, fun k j hk => ?_⟩
  · rw [gr_17] at g1
    by_cases he : g = M 17 0
    · subst he
      simp only [MGr, gr_n18, gr_n19, gr_n20, gr_n21]
      exact ⟨h1, h2, h3, h4⟩
    · have he2 : g < M 17 0 := by omega
      have := a8 g g0 he2
      simp only [MGr, gr_s18 he2, gr_s19 he2, gr_s20 he2, gr_s21 he2]
      exact this
  · have h9 := a11 k j hk
    rcases hk with rfl | rfl | rfl | rfl | rfl | rfl | rfl <;> exact h9
theorem MI.co2 {M : MS} {row frm is : Int} (h : MI M) (hr : 0 ≤ row ∧ row < 80) (hn : M 14 row < 20) (h1 : 0 ≤ frm ∧ frm ≤ 100000) (h2 : is = 0 ∨ is = 1) : MI (conM M row frm is) := by
  obtain ⟨a1, a2, a3, a4, a5, a6, a7, a8, a9, a10, a11⟩ := h
  refine ⟨a1, a2, a3, a4, fun r r0 r1 => ?_, fun r k r0 r1 k0 k1 => ?_, a7, a8, a9, a10, fun k j hk => ?_⟩
  · rw [co_14]
    split
    · have := a5 row hr.1 hr.2
      omega
    · exact a5 r r0 r1
  · rw [co_14] at k1
    rw [co_15]
    split
    · exact h1
    · have h14 := a5 row hr.1 hr.2
      by_cases hrr : r = row
      · subst hrr
        rw [if_pos rfl] at k1
        exact a6 r k r0 r1 k0 (by omega)
      · rw [if_neg hrr] at k1
        exact a6 r k r0 r1 k0 k1
  · by_cases hk2 : k = 16
    · subst hk2
      rw [co_16]
      split
      · exact h2
      · exact a11 16 j hk
    · have h9 := a11 k j hk
      rcases hk with rfl | rfl | rfl | rfl | rfl | rfl | rfl <;> first | exact h9 | exact absurd rfl hk2


/-! The law's round: the object and the five arrays -/
def GI (ob : Nat) (h : HS) (V M : MS) : Prop := RC ob h M ∧ LR V M ∧ LX M ∧ M 2 0 ≤ 50
def GF (ob : Nat) (h : HS) (V M : MS) : Prop := GI ob h V M ∧ IsLow M (M 27) ∧ ∀ i, 0 ≤ i → i < 6 → V 2 i = M 27 (nn i)
theorem LR.p1 {V V' M M' : MS} (hL : LR V M) (hv : V' 0 = V 0) (h2 : M' 2 = M 2) (h4 : M' 4 = M 4) (h5 : M' 5 = M 5) (h6 : M' 6 = M 6) (h7 : M' 7 = M 7) (h8 : M' 8 = M 8) (h9 : M' 9 = M 9) : ∀ k, 0 ≤ k → k < M' 2 0 → EvB M' k ∧ ((M' 9 k = 1 ∧ V' 0 k = -1) ∨ (M' 9 k = 0 ∧ V' 0 k = encE M' k)) := by
  simp only [EvB, encE, hv, h2, h4, h5, h6, h7, h8, h9]
  exact hL.1
theorem LR.p2 {V V' M M' : MS} (hL : LR V M) (hv : V' 1 = V 1) (h1 : M' 11 = M 11) (h2 : M' 12 = M 12) (h3 : M' 13 = M 13) : ∀ d, 0 ≤ d → d < 3 → V' 1 d = M' 11 d ∧ V' 1 (3 + d) = M' 12 d ∧ ∀ a, 0 ≤ a → a < 3 → V' 1 (6 + 3 * d + a) = M' 13 (10 * d + a) := by
  simp only [hv, h1, h2, h3]
  exact hL.2.1
theorem LR.p3 {V V' M M' : MS} (hL : LR V M) (hv : V' 3 = V 3) (hw : V' 4 = V 4) (h1 : M' 14 = M 14) (h2 : M' 15 = M 15) (h3 : M' 16 = M 16) : ∀ i, 0 ≤ i → i < 6 → V' 4 i = M' 14 (4 * nn i) ∧ V' 4 i ≤ 6 ∧ ∀ j, 0 ≤ j → j < V' 4 i → V' 3 (6 * i + j) = 2 * M' 15 (20 * (4 * nn i) + j) + M' 16 (20 * (4 * nn i) + j) := by
  simp only [hv, hw, h1, h2, h3]
  exact hL.2.2
theorem LR.sm {ks : List Nat} {V M M' : MS} (g : Sm ks M M') (hL : LR V M) (hk : ∀ k ∈ ks, k ∉ [2, 4, 5, 6, 7, 8, 9, 11, 12, 13, 14, 15, 16] := by decide) : LR V M' := by
  have e : ∀ k, k ∈ [2, 4, 5, 6, 7, 8, 9, 11, 12, 13, 14, 15, 16] → M' k = M k := fun k q => g k (fun q' => hk k q' q)
  exact ⟨hL.p1 rfl (e 2 (by decide)) (e 4 (by decide)) (e 5 (by decide)) (e 6 (by decide)) (e 7 (by decide)) (e 8 (by decide)) (e 9 (by decide)), hL.p2 rfl (e 11 (by decide)) (e 12 (by decide)) (e 13 (by decide)), hL.p3 rfl rfl (e 14 (by decide)) (e 15 (by decide)) (e 16 (by decide))⟩
theorem LX.sm {ks : List Nat} {M M' : MS} (g : Sm ks M M') (hL : LX M) (hk : ∀ k ∈ ks, k ∉ [2, 3, 10, 17, 18, 19, 20, 21] := by decide) : LX M' := by
  have e : ∀ k, k ∈ [2, 3, 10, 17, 18, 19, 20, 21] → M' k = M k := fun k q => g k (fun q' => hk k q' q)
  simp only [LX, e 2 (by decide), e 3 (by decide), e 10 (by decide), e 17 (by decide), e 18 (by decide), e 19 (by decide), e 20 (by decide), e 21 (by decide)]
  exact hL
theorem GI.fnd {ob : Nat} {h : HS} {V V' M : MS} {f : Int → Int} (G : GI ob h V M) (hc : ∀ k, k ≠ 2 → V' k = V k) (hf : IsLow M f) (hv : ∀ i, 0 ≤ i → i < 6 → V' 2 i = f (nn i)) : ∃ M', GF ob h V' M' ∧ M' 1 0 = M 1 0 ∧ M' 2 0 = M 2 0 := by
  obtain ⟨M', hM'⟩ : ∃ M' : MS, M' = fun k j => if k = 27 then f j else M k j := ⟨_, rfl⟩
  have hk : ∀ k, k ≠ 27 → M' k = M k := fun k hk => by
    rw [hM']
    funext j
    exact if_neg hk
  have h27 : M' 27 = f := by
    rw [hM']
    funext j
    exact if_pos rfl
  have g : Fnd M M' := ⟨hk, by rw [h27]; exact hf⟩
  refine ⟨M', ⟨⟨G.1.fnd g, LR.sm g.sm (LR.cg hc G.2.1), LX.sm g.sm G.2.2.1, by rw [hk 2 (by decide)]; exact G.2.2.2⟩, by rw [h27]; exact g.sm.low hf, by rw [h27]; exact hv⟩, by rw [hk 1 (by decide)], by rw [hk 2 (by decide)]⟩
theorem RC.n9 {ob : Nat} {h : HS} {M : MS} (R : RC ob h M) : ∀ e, M 2 0 ≤ e → M 9 e = 0 := by
  obtain ⟨A, l, f, ow, rfl, c⟩ := R
  exact c.2.2.2.2.2.2.2.2.2.2.2.1
theorem nn_inj {i j : Int} (hi : 0 ≤ i ∧ i < 6) (hj : 0 ≤ j ∧ j < 6) (h : nn i = nn j) : i = j := by
  unfold nn at h
  split at h <;> split at h <;> omega
theorem LR.ev {V M : MS} (hL : LR V M) (hn : 0 ≤ M 2 0) (h9 : M 9 (M 2 0) = 0) {its dv who what frm time : Int} (h2 : 0 ≤ dv ∧ dv ≤ 2) (h3 : -1 ≤ who ∧ who ≤ 2) (h4 : 0 ≤ what ∧ what ≤ 2) (h5 : -1 ≤ frm ∧ frm ≤ 1) (h6 : 0 ≤ time ∧ time < 200000) : LR (mset V 0 (M 2 0) (dv + 4 * (who + 1) + 16 * what + 128 * (frm + 1) + 2048 * time)) (evM M its dv who what frm time) := by
  refine ⟨fun k h0 h1 => ?_, hL.p2 (mset_row (by decide) V _ _) ev_o11 ev_o12 ev_o13, hL.p3 (mset_row (by decide) V _ _) (mset_row (by decide) V _ _) ev_o14 ev_o15 ev_o16⟩
  rw [ev_2] at h1
  by_cases hk : k = M 2 0
  · subst hk
    simp only [EvB, encE, ev_n4, ev_n5, ev_n6, ev_n7, ev_n8, ev_o9, mset_eq, h9]
    exact ⟨⟨h2, h3, h4, h5, h6⟩, Or.inr ⟨trivial, trivial⟩⟩
  · have hlt : k < M 2 0 := by omega
    have q := hL.1 k h0 hlt
    simp only [EvB, encE, ev_s4 hlt, ev_s5 hlt, ev_s6 hlt, ev_s7 hlt, ev_s8 hlt, ev_o9, mset_ne2 hk] at q ⊢
    exact q
theorem LX.ev {M : MS} (hL : LX M) (hn : 0 ≤ M 2 0) {dv who what frm time : Int} : LX (evM M (M 2 0 + 1) dv who what frm time) := by
  obtain ⟨h1, h2, h3⟩ := hL
  refine ⟨fun k k0 k1 => ?_, fun j hj => ?_, by rw [ev_o17, ev_o18, ev_o19, ev_o20, ev_o21]; exact h3⟩
  · rw [ev_2] at k1
    by_cases hk : k = M 2 0
    · subst hk
      rw [ev_n3]
    · rw [ev_s3 (by omega)]
      exact h1 k k0 (by omega)
  · rw [ev_2] at hj
    rw [ev_10, if_neg (by omega)]
    exact h2 j (by omega)
theorem LR.sk {V M : MS} (hL : LR V M) {d z : Int} (hd : 0 ≤ d ∧ d < 3) : LR (mset V 1 d z) (mset M 11 d z) := by
  refine ⟨hL.p1 (mset_row (by decide) V _ _) (mset_row (by decide) M _ _) (mset_row (by decide) M _ _) (mset_row (by decide) M _ _) (mset_row (by decide) M _ _) (mset_row (by decide) M _ _) (mset_row (by decide) M _ _) (mset_row (by decide) M _ _), fun e h0 h1 => ?_, hL.p3 (mset_row (by decide) V _ _) (mset_row (by decide) V _ _) (mset_row (by decide) M _ _) (mset_row (by decide) M _ _) (mset_row (by decide) M _ _)⟩
  have q := hL.2.1 e h0 h1
  refine ⟨?_, ?_, fun a a0 a1 => ?_⟩
  · rw [mset_at, mset_at]
    by_cases he : e = d
    · rw [if_pos he, if_pos he]
    · rw [if_neg he, if_neg he]; exact q.1
  · rw [mset_at, if_neg (by omega), mset_ne (by decide)]; exact q.2.1
  · rw [mset_at, if_neg (by omega), mset_ne (by decide)]; exact q.2.2 a a0 a1
theorem LR.sh {V M : MS} (hL : LR V M) {d z : Int} (hd : 0 ≤ d ∧ d < 3) : LR (mset V 1 (3 + d) z) (mset M 12 d z) := by
  refine ⟨hL.p1 (mset_row (by decide) V _ _) (mset_row (by decide) M _ _) (mset_row (by decide) M _ _) (mset_row (by decide) M _ _) (mset_row (by decide) M _ _) (mset_row (by decide) M _ _) (mset_row (by decide) M _ _) (mset_row (by decide) M _ _), fun e h0 h1 => ?_, hL.p3 (mset_row (by decide) V _ _) (mset_row (by decide) V _ _) (mset_row (by decide) M _ _) (mset_row (by decide) M _ _) (mset_row (by decide) M _ _)⟩
  have q := hL.2.1 e h0 h1
  refine ⟨?_, ?_, fun a a0 a1 => ?_⟩
  · rw [mset_at, if_neg (by omega), mset_ne (by decide)]; exact q.1
  · rw [mset_at, mset_at]
    by_cases he : e = d
    · rw [if_pos (by omega), if_pos he]
    · rw [if_neg (by omega), if_neg he]; exact q.2.1
  · rw [mset_at, if_neg (by omega), mset_ne (by decide)]; exact q.2.2 a a0 a1
theorem LR.li {V M : MS} (hL : LR V M) {d c z : Int} (hd : 0 ≤ d ∧ d < 3) (hc : 0 ≤ c ∧ c < 3) : LR (mset V 1 (6 + 3 * d + c) z) (mset M 13 (10 * d + c) z) := by
  refine ⟨hL.p1 (mset_row (by decide) V _ _) (mset_row (by decide) M _ _) (mset_row (by decide) M _ _) (mset_row (by decide) M _ _) (mset_row (by decide) M _ _) (mset_row (by decide) M _ _) (mset_row (by decide) M _ _) (mset_row (by decide) M _ _), fun e h0 h1 => ?_, hL.p3 (mset_row (by decide) V _ _) (mset_row (by decide) V _ _) (mset_row (by decide) M _ _) (mset_row (by decide) M _ _) (mset_row (by decide) M _ _)⟩
  have q := hL.2.1 e h0 h1
  refine ⟨?_, ?_, fun a a0 a1 => ?_⟩
  · rw [mset_at, if_neg (by omega), mset_ne (by decide)]; exact q.1
  · rw [mset_at, if_neg (by omega), mset_ne (by decide)]; exact q.2.1
  · rw [mset_at, mset_at]
    by_cases he : 6 + 3 * e + a = 6 + 3 * d + c
    · rw [if_pos he, if_pos (by omega)]
    · rw [if_neg he, if_neg (by omega)]; exact q.2.2 a a0 a1
theorem LR.co {V M : MS} (hL : LR V M) {nd fr is : Int} (hnd : 0 ≤ nd ∧ nd < 6) (h4 : V 4 nd < 6) (h0 : 0 ≤ V 4 nd) : LR (mset (mset V 3 (6 * nd + V 4 nd) (2 * fr + is)) 4 nd (V 4 nd + 1)) (conM M (4 * nn nd) fr is) := by
  refine ⟨hL.p1 ((mset_row (by decide) _ _ _).trans (mset_row (by decide) V _ _)) co_o2 co_o4 co_o5 co_o6 co_o7 co_o8 co_o9, hL.p2 ((mset_row (by decide) _ _ _).trans (mset_row (by decide) V _ _)) co_o11 co_o12 co_o13, fun i i0 i1 => ?_⟩
  have q := hL.2.2 i i0 i1
  have q2 := hL.2.2 nd hnd.1 hnd.2
  have e3 : mset (mset V 3 (6 * nd + V 4 nd) (2 * fr + is)) 4 nd (V 4 nd + 1) 3 = mset V 3 (6 * nd + V 4 nd) (2 * fr + is) 3 := mset_row (by decide) _ _ _
  have e4 : ∀ j, mset (mset V 3 (6 * nd + V 4 nd) (2 * fr + is)) 4 nd (V 4 nd + 1) 4 j = if j = nd then V 4 nd + 1 else V 4 j := fun j => by
    rw [mset_at, mset_ne (by decide)]
  rw [e3, e4, co_14]
  by_cases hi : i = nd
  · subst hi
    rw [if_pos rfl, if_pos rfl]
    refine ⟨by omega, by omega, fun j j0 j1 => ?_⟩
    rw [mset_at, co_15, co_16, ← q.1]
    by_cases hj : j = V 4 i
    · subst hj
      rw [if_pos rfl, if_pos rfl, if_pos rfl]
    · rw [if_neg (by omega), if_neg (by omega), if_neg (by omega)]
      exact q.2.2 j j0 (by omega)
  · have hne : ¬ nn i = nn nd := fun g => hi (nn_inj ⟨i0, i1⟩ hnd g)
    rw [if_neg hi, if_neg (by omega)]
    refine ⟨q.1, q.2.1, fun j j0 j1 => ?_⟩
    have q3 := q.2.1
    have q4 := q2.1
    rw [mset_at, co_15, co_16, if_neg (by omega), if_neg (by omega), if_neg (by omega)]
    exact q.2.2 j j0 j1
theorem LR.fo {V V2 M : MS} (hL : LR V M) {nd : Int} (hnd : 0 ≤ nd ∧ nd < 6) (hP : ∀ i, 0 ≤ i → i < 6 → V 2 i = M 27 (nn i)) (h0 : ∀ j, 0 ≤ j → j < M 2 0 → V2 0 j = if blg M j (nn nd) then -1 else V 0 j) (h1 : V2 1 = V 1) (h3 : V2 3 = V 3) (h4 : ∀ i, 0 ≤ i → i < 6 → V2 4 i = if V 2 i = V 2 nd then 0 else V 4 i) : LR V2 (forM M (nn nd)) := by
  obtain ⟨g1, g2, g3⟩ := forM_r M (nn nd)
  refine ⟨fun k k0 k1 => ?_, hL.p2 h1 (g1 11 (by decide) (by decide)) (g1 12 (by decide) (by decide)) (g1 13 (by decide) (by decide)), fun i i0 i1 => ?_⟩
  · rw [g1 2 (by decide) (by decide)] at k1
    have q := hL.1 k k0 k1
    simp only [EvB, encE, g1 4 (by decide) (by decide), g1 5 (by decide) (by decide), g1 6 (by decide) (by decide), g1 7 (by decide) (by decide), g1 8 (by decide) (by decide)]
    refine ⟨q.1, ?_⟩
    rw [g2 k, h0 k k0 k1]
    by_cases hb : blg M k (nn nd)
    · rw [if_pos ⟨k0, k1, hb⟩, if_pos hb]
      exact Or.inl ⟨rfl, rfl⟩
    · rw [if_neg (fun g => hb g.2.2), if_neg hb]
      exact q.2
  · have q := hL.2.2 i i0 i1
    have hni := nn_in ⟨i0, i1⟩
    rw [g3, h4 i i0 i1, g1 15 (by decide) (by decide), g1 16 (by decide) (by decide), h3, show 4 * nn i / 4 = nn i by omega, hP i i0 i1, hP nd hnd.1 hnd.2]
    by_cases hb : M 27 (nn i) = M 27 (nn nd)
    · rw [if_pos hb, if_pos ⟨by omega, by omega, hb⟩]
      exact ⟨rfl, by decide, fun j j0 j1 => by omega⟩
    · rw [if_neg hb, if_neg (fun g => hb g.2.2)]
      exact q
theorem forM_sm (M : MS) (x : Int) : Sm [9, 14] M (forM M x) := fun k q => (forM_r M x).1 k (fun e => q (by rw [e]; decide)) (fun e => q (by rw [e]; decide))
/-- where the law's forgetting stands -/
def forI (M : MS) (x : Int) (i : Nat) : MS := fun k j => if k = 9 then (if 0 ≤ j ∧ j < i ∧ blg M j x then 1 else M 9 j) else M k j
theorem forI_f (M : MS) (x : Int) (i : Nat) : FI M (forI M x i) x i := by
  refine ⟨fun k h1 => ?_, fun j => ?_⟩
  · funext j
    exact if_neg h1
  · exact if_pos rfl
theorem LR.fi {V V2 M : MS} (hL : LR V M) {x : Int} {i : Nat} (hc : ∀ k, k ≠ 0 → V2 k = V k) (h0 : ∀ j, 0 ≤ j → j < M 2 0 → V2 0 j = if j < i ∧ blg M j x then -1 else V 0 j) : LR V2 (forI M x i) := by
  obtain ⟨g1, g2⟩ := forI_f M x i
  refine ⟨fun k k0 k1 => ?_, hL.p2 (hc 1 (by decide)) (g1 11 (by decide)) (g1 12 (by decide)) (g1 13 (by decide)), hL.p3 (hc 3 (by decide)) (hc 4 (by decide)) (g1 14 (by decide)) (g1 15 (by decide)) (g1 16 (by decide))⟩
  rw [g1 2 (by decide)] at k1
  have q := hL.1 k k0 k1
  simp only [EvB, encE, g1 4 (by decide), g1 5 (by decide), g1 6 (by decide), g1 7 (by decide), g1 8 (by decide)]
  refine ⟨q.1, ?_⟩
  rw [g2 k, h0 k k0 k1]
  by_cases hb : k < i ∧ blg M k x
  · rw [if_pos ⟨k0, hb⟩, if_pos hb]
    exact Or.inl ⟨rfl, rfl⟩
  · rw [if_neg (fun g => hb g.2), if_neg hb]
    exact q.2
abbrev RLaw : Room := { frames := 11, cells := 600074, slots := 7301550, locals := 424 }
abbrev LL (bs ob : Nat) (ba : Nat → Nat) (n now t y : Int) : List (Nat × Value) := [(0, vr (some bs)), (1, vr (some ob)), (2, vr (some (ba 0))), (3, vr (some (ba 1))), (4, vr (some (ba 2))), (5, vr (some (ba 3))), (6, vr (some (ba 4))), (7, vi n), (8, vi now), (9, vi t), (11, vi y)]
abbrev LF (bs ob : Nat) (ba : Nat → Nat) (n now t x y kd dv ac nd : Int) : List (Nat × Value) := [(0, vr (some bs)), (1, vr (some ob)), (2, vr (some (ba 0))), (3, vr (some (ba 1))), (4, vr (some (ba 2))), (5, vr (some (ba 3))), (6, vr (some (ba 4))), (7, vi n), (8, vi now), (9, vi t), (10, vi x), (11, vi y), (12, vi kd), (13, vi dv), (14, vi ac), (15, vi nd)]

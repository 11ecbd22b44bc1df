/-! Calls of the object in the law's world -/
section QA
variable {l : Launch} {D : va_G} {cy : CY} {y : MethodName} {w0 : Cond} {fr lo mc ms : Nat} {as : List Value} {ba : Nat → Nat}
theorem Ct.inA {hh : HS} {Post : Except String (Option Value) → HS → Prop} (h : Ct l D cy y w0 fr lo mc ms (RepH cy) as hh Post) {V : MS} : Ct l D cy y w0 fr lo mc ms (LA cy ba) as (hh, V) (fun r x => ∃ h', x = (h', V) ∧ Post r h') := by
  refine Ct.view (Ct.perm (Ct.frame (fun w => w = wsA cy ba V) h)) ?_ ?_
  · rintro ws ⟨w1, hp, h1⟩
    exact ⟨w1 ++ wsA cy ba V, List.perm_append_comm.trans hp, w1, wsA cy ba V, rfl, h1, rfl⟩
  · rintro r x' ws hpost ⟨wz, hp, w1, w2, rfl, h1, h2⟩
    subst h2
    exact ⟨(x', V), ⟨x', rfl, hpost⟩, w1, List.perm_append_comm.trans hp, h1⟩
theorem CP.use {ob : Nat} {exs : List (String × Int)} {B : Int → Prop} {Qm : Except String (Option Value) → Int × MS → Prop} {r : Except String (Option Value)} {h' : HS} {v : Int} {M' : MS} (hq : CP ob exs B Qm r h') (hx : ∀ E, (E, (0 : Int)) ∉ exs) (hm : Qm (.ok (some (vi v))) (0, M')) : RC ob h' M' ∧ r = .ok (some (vi v)) := by
  obtain ⟨a, b⟩ := hq.2 _ _ _ hm
  refine ⟨a, ?_⟩
  rcases b with ⟨w, e1, e2, -⟩ | ⟨E, -, e2, -⟩
  · rw [e1, e2]
  · exact absurd e2 (hx E)
theorem Ct.q {ob : Nat} {exs : List (String × Int)} {B : Int → Prop} {Qm : Except String (Option Value) → Int × MS → Prop} {hh : HS} {v : Int} {M' : MS} (h : Ct l D cy y w0 fr lo mc ms (RepH cy) as hh (fun r h' => CP ob exs B Qm r h')) (hx : ∀ E, (E, (0 : Int)) ∉ exs) (hm : Qm (.ok (some (vi v))) (0, M')) {V : MS} : Ct l D cy y w0 fr lo mc ms (LA cy ba) as (hh, V) (fun r x => r = .ok (some (vi v)) ∧ ∃ h', x = (h', V) ∧ RC ob h' M') := Ct.weaken (Ct.inA h) (fun r x hp => by
  obtain ⟨h', e, q⟩ := hp
  obtain ⟨a, b⟩ := q.use hx hm
  exact ⟨b, h', e, a⟩)
end QA
theorem RC.k {ob : Nat} {h : HS} {M : MS} (R : RC ob h M) : kD h ob = 7 := by
  obtain ⟨A, l, f, ow, rfl, c⟩ := R
  exact c.2.1.1
theorem RC.mi {ob : Nat} {h : HS} {M : MS} (R : RC ob h M) : MI M := by
  obtain ⟨A, l, f, ow, rfl, c⟩ := R
  exact c.1.mi
theorem RC.no {ob : Nat} {h : HS} {M : MS} (R : RC ob h M) : ∃ l, Ord M l := by
  obtain ⟨A, l, f, ow, rfl, c⟩ := R
  exact ⟨l, c.2.2.2.1.2⟩
theorem RC.un {ob : Nat} {h : HS} {M : MS} (R : RC ob h M) : ∀ e u, 0 ≤ e → e < M 2 0 → 0 ≤ u → u < M 2 0 → M 3 e = M 3 u → e = u := by
  obtain ⟨A, l, f, ow, rfl, c⟩ := R
  exact c.2.2.2.2.2.2.2.2.2.1
theorem fnd_self {M : MS} (hlow : IsLow M (M 27)) : Fnd M M := ⟨fun _ _ => rfl, hlow⟩
theorem pw_uniq {M : MS} : ∀ {p q : List Int}, p.Pairwise (ahd M) → q.Pairwise (ahd M) → (∀ e, e ∈ p ↔ e ∈ q) → p = q := by
  intro p
  induction p with
  | nil =>
    intro q _ _ hm
    cases q with
    | nil => rfl
    | cons x t => exact absurd ((hm x).mpr List.mem_cons_self) List.not_mem_nil
  | cons x t ih =>
    intro q hp hq hm
    cases q with
    | nil => exact absurd ((hm x).mp List.mem_cons_self) List.not_mem_nil
    | cons z u =>
      have hp2 := List.pairwise_cons.mp hp
      have hq2 := List.pairwise_cons.mp hq
      have hxz : x = z := by
        rcases List.mem_cons.mp ((hm x).mp List.mem_cons_self) with g | g
        · exact g
        · rcases List.mem_cons.mp ((hm z).mpr List.mem_cons_self) with g2 | g2
          · exact g2.symm
          · exact absurd (hp2.1 z g2) (ahd_asy M (hq2.1 x g))
      subst hxz
      have e1 : t = u := ih hp2.2 hq2.2 (fun e => by
        constructor
        · intro he
          rcases List.mem_cons.mp ((hm e).mp (List.mem_cons_of_mem _ he)) with g | g
          · subst g; exact absurd (hp2.1 e he) (ahd_irr M e)
          · exact g
        · intro he
          rcases List.mem_cons.mp ((hm e).mpr (List.mem_cons_of_mem _ he)) with g | g
          · subst g; exact absurd (hq2.1 e he) (ahd_irr M e)
          · exact g)
      rw [e1]
theorem PR.uniq {M : MS} {node : Int} {p q : List Int} (hp : PR M node p) (hq : PR M node q) : p = q := pw_uniq hp.1 hq.1 (fun e => (hp.2 e).trans (hq.2 e).symm)

set_option maxRecDepth 100000 in
set_option maxHeartbeats 400000 in
theorem q_profile {l : Launch} {D : va_G} {cy : CY} (hst : l.stackTraces = false) {ba : Nat → Nat} {ob : Nat} {h : HS} {V M : MS} (R : RC ob h M) {x : Int} (hlow : IsLow M (M 27)) (hx : 0 ≤ x ∧ x ≤ 19) : Ct l D cy yX6_profile (Cond.code yX6_profile cX6_profile 2 (some .int)) 7 104 1 6 (LA cy ba) [vr (some ob), vi x] (h, V) (fun r q9 => r = .ok (some (vi (M 27 x))) ∧ ∃ h', q9 = (h', V) ∧ RC ob h' M) := by
  obtain ⟨A, lz, f, ow, rfl, c⟩ := R
  have sM := c.1.mi
  have hN := sM.n
  have hord := c.2.2.2.1.2

  exact Ct.q (cp_profile hst c (by omega)) (fun E hE => by simp at hE) (Or.inl ⟨hx, M, fnd_self hlow, rfl, rfl⟩)

set_option maxRecDepth 100000 in
set_option maxHeartbeats 400000 in
theorem q_profileAnew {l : Launch} {D : va_G} {cy : CY} (hst : l.stackTraces = false) {ba : Nat → Nat} {ob : Nat} {h : HS} {V M : MS} (R : RC ob h M) {x : Int} (hlow : IsLow M (M 27)) (hx : 0 ≤ x ∧ x ≤ 19) : Ct l D cy yX6_profileAnew (Cond.code yX6_profileAnew cX6_profileAnew 3 (some .int)) 7 107 1 6 (LA cy ba) [vr (some ob), vi x] (h, V) (fun r q9 => r = .ok (some (vi (M 27 x))) ∧ ∃ h', q9 = (h', V) ∧ RC ob h' M) := by
  obtain ⟨A, lz, f, ow, rfl, c⟩ := R
  have sM := c.1.mi
  have hN := sM.n
  have hord := c.2.2.2.1.2

  exact Ct.q (cp_profileAnew hst c (by omega)) (fun E hE => by simp at hE) (Or.inl ⟨hx, M, fnd_self hlow, rfl, rfl⟩)

set_option maxRecDepth 100000 in
set_option maxHeartbeats 400000 in
theorem q_events {l : Launch} {D : va_G} {cy : CY} (hst : l.stackTraces = false) {ba : Nat → Nat} {ob : Nat} {h : HS} {V M : MS} (R : RC ob h M) {x : Int} (hlow : IsLow M (M 27)) (hx : 0 ≤ x ∧ x ≤ 19) : Ct l D cy yX6_events (Cond.code yX6_events cX6_events 7 (some .int)) 6 82 1 6 (LA cy ba) [vr (some ob), vi x, vi (-1)] (h, V) (fun r q9 => r = .ok (some (vi (evF M x (-1) (M 2 0).toNat))) ∧ ∃ h', q9 = (h', V) ∧ RC ob h' M) := by
  obtain ⟨A, lz, f, ow, rfl, c⟩ := R
  have sM := c.1.mi
  have hN := sM.n
  have hord := c.2.2.2.1.2

  exact Ct.q (cp_events hst c (by omega) (by omega)) (fun E hE => by simp at hE) (Or.inl ⟨⟨hx, by decide, by decide⟩, M, fnd_self hlow, rfl, rfl⟩)

set_option maxRecDepth 100000 in
set_option maxHeartbeats 400000 in
theorem q_sessions {l : Launch} {D : va_G} {cy : CY} (hst : l.stackTraces = false) {ba : Nat → Nat} {ob : Nat} {h : HS} {V M : MS} (R : RC ob h M) {x : Int} {pl : List Int} (hlow : IsLow M (M 27)) (hx : 0 ≤ x ∧ x ≤ 19) (hp : PR M x pl) : Ct l D cy yX6_sessions (Cond.code yX6_sessions cX6_sessions 2 (some .int)) 7 104 1 6 (LA cy ba) [vr (some ob), vi x] (h, V) (fun r q9 => r = .ok (some (vi ((sgs M pl).length : Int))) ∧ ∃ h', q9 = (h', V) ∧ RC ob h' M) := by
  obtain ⟨A, lz, f, ow, rfl, c⟩ := R
  have sM := c.1.mi
  have hN := sM.n
  have hord := c.2.2.2.1.2
  rw [hp.uniq (hord.pr x)]
  exact Ct.q (cp_sessions hst c (by omega)) (fun E hE => by simp at hE) (Or.inl ⟨hx, M, fnd_self hlow, rfl, rfl⟩)

set_option maxRecDepth 100000 in
set_option maxHeartbeats 400000 in
theorem q_counted {l : Launch} {D : va_G} {cy : CY} (hst : l.stackTraces = false) {ba : Nat → Nat} {ob : Nat} {h : HS} {V M : MS} (R : RC ob h M) {x mi : Int} (hlow : IsLow M (M 27)) (hx : 0 ≤ x ∧ x ≤ 19) (hmi : 0 ≤ mi ∧ mi ≤ 100000) : Ct l D cy yX6_counted (Cond.code yX6_counted cX6_counted 7 (some .int)) 6 96 1 6 (LA cy ba) [vr (some ob), vi x, vi 0, vi 1, vi mi, vi 2] (h, V) (fun r q9 => r = .ok (some (vi (sumF M x 0 1 mi 2 (M 2 0).toNat))) ∧ ∃ h', q9 = (h', V) ∧ RC ob h' M) := by
  obtain ⟨A, lz, f, ow, rfl, c⟩ := R
  have sM := c.1.mi
  have hN := sM.n
  have hord := c.2.2.2.1.2

  exact Ct.q (cp_counted hst c (by omega) (by omega) (by omega) (by omega) (by omega)) (fun E hE => by simp at hE) (Or.inl ⟨⟨hx, by decide, by decide, hmi, by decide⟩, M, fnd_self hlow, rfl, rfl⟩)

set_option maxRecDepth 100000 in
set_option maxHeartbeats 400000 in
theorem q_groups {l : Launch} {D : va_G} {cy : CY} (hst : l.stackTraces = false) {ba : Nat → Nat} {ob : Nat} {h : HS} {V M : MS} (R : RC ob h M) {x : Int} (hlow : IsLow M (M 27)) (hx : 0 ≤ x ∧ x ≤ 19) : Ct l D cy yX6_groups (Cond.code yX6_groups cX6_groups 5 (some .int)) 7 104 1 6 (LA cy ba) [vr (some ob), vi x] (h, V) (fun r q9 => r = .ok (some (vi (grF M x (M 17 0).toNat))) ∧ ∃ h', q9 = (h', V) ∧ RC ob h' M) := by
  obtain ⟨A, lz, f, ow, rfl, c⟩ := R
  have sM := c.1.mi
  have hN := sM.n
  have hord := c.2.2.2.1.2

  exact Ct.q (cp_groups hst c (by omega)) (fun E hE => by simp at hE) (Or.inl ⟨hx, M, fnd_self hlow, rfl, rfl⟩)

set_option maxRecDepth 100000 in
set_option maxHeartbeats 400000 in
theorem q_eventAt {l : Launch} {D : va_G} {cy : CY} (hst : l.stackTraces = false) {ba : Nat → Nat} {ob : Nat} {h : HS} {V M : MS} (R : RC ob h M) {x : Int} {j : Nat} {pl : List Int} (hlow : IsLow M (M 27)) (hx : 0 ≤ x ∧ x ≤ 19) (hp : PR M x pl) (hj : j < pl.length) (hj2 : j ≤ 1000) : Ct l D cy yX6_eventAt (Cond.code yX6_eventAt cX6_eventAt 6 (some .int)) 7 104 2 12 (LA cy ba) [vr (some ob), vi x, vi (j : Int)] (h, V) (fun r q9 => r = .ok (some (vi (M 3 (at1 pl j)))) ∧ ∃ h', q9 = (h', V) ∧ RC ob h' M) := by
  obtain ⟨A, lz, f, ow, rfl, c⟩ := R
  have sM := c.1.mi
  have hN := sM.n
  have hord := c.2.2.2.1.2
  have e1 := hp.uniq (hord.pr x)
  have e2 := hp.at_rng hN.1 j
  rw [e1] at e2 hj ⊢
  exact Ct.q (cp_eventAt hst c (by omega) (by omega)) (fun E hE => by simp at hE) (Or.inl ⟨hx, by omega, M, fnd_self hlow, Or.inr ⟨by rw [Int.toNat_natCast]; omega, by rw [Int.toNat_natCast], rfl⟩⟩)

set_option maxRecDepth 100000 in
set_option maxHeartbeats 400000 in
theorem q_time {l : Launch} {D : va_G} {cy : CY} (hst : l.stackTraces = false) {ba : Nat → Nat} {ob : Nat} {h : HS} {V M : MS} (R : RC ob h M) {e x : Int} (he : 0 ≤ e ∧ e < M 2 0) (h9 : M 9 e = 0) (h3 : M 3 e = x) (hx : 0 ≤ x ∧ x ≤ 1000) : Ct l D cy yX6_time (Cond.code yX6_time cX6_time 3 (some .int)) 2 41 0 0 (LA cy ba) [vr (some ob), vi x] (h, V) (fun r q9 => r = .ok (some (vi (tmOf M e))) ∧ ∃ h', q9 = (h', V) ∧ RC ob h' M) := by
  obtain ⟨A, lz, f, ow, rfl, c⟩ := R
  have sM := c.1.mi
  have hN := sM.n
  have hord := c.2.2.2.1.2
  have hu := c.2.2.2.2.2.2.2.2.2.1
  have ht : timeF M x (M 2 0).toNat = tmOf M e := by
    rcases timeF_spec M x (M 2 0).toNat with ⟨u, u1, u2, u3, u4⟩ | ⟨u1, u2⟩
    · rw [u4, hu u e u1.1 (by omega) he.1 he.2 (u3.trans h3.symm)]
    · exact absurd h3 (u2 e he.1 (by omega) h9)
  rw [← ht]
  exact Ct.q (cp_time hst c (by omega)) (fun E hE => by simp at hE) ⟨rfl, rfl⟩

set_option maxRecDepth 100000 in
set_option maxHeartbeats 400000 in
theorem q_session0 {l : Launch} {D : va_G} {cy : CY} (hst : l.stackTraces = false) {ba : Nat → Nat} {ob : Nat} {h : HS} {V M : MS} (R : RC ob h M) {x se : Int} {pl : List Int} {done rest : List Seg} {s1 s2 s3 s4 : Int} (hlow : IsLow M (M 27)) (hx : 0 ≤ x ∧ x ≤ 19) (hp : PR M x pl) (hs : sgs M pl = done ++ (s1, s2, s3, s4) :: rest) (hse : se = (done.length : Int)) (hd : done.length ≤ 1000) : Ct l D cy yX6_session (Cond.code yX6_session cX6_session 5 (some .int)) 6 87 1 6 (LA cy ba) [vr (some ob), vi x, vi se, vi 0] (h, V) (fun r q9 => r = .ok (some (vi (tmOf M s1))) ∧ ∃ h', q9 = (h', V) ∧ RC ob h' M) := by
  obtain ⟨A, lz, f, ow, rfl, c⟩ := R
  have sM := c.1.mi
  have hN := sM.n
  have hord := c.2.2.2.1.2
  have e1 := hp.uniq (hord.pr x)
  have e2 := gsV_some (what := 0) hs hse (by decide)
  have e3 : sgV M (s1, s2, s3, s4) 0 = (tmOf M s1) := by simp [sgV]
  rw [e3] at e2
  rw [e1] at e2 hs
  have e4 := gsV_get sM hord x se 0 (by decide)
  have e5 : (sgs M (prof M lz x)).length = done.length + (rest.length + 1) := by rw [hs, List.length_append, List.length_cons]
  have e6 : ¬ gsV M (prof M lz x) se 0 = -2 := by
    rcases e4 with ⟨-, g⟩ | ⟨_, -, -, -, -, g, -⟩
    · omega
    · omega
  rw [← e2]
  exact Ct.q (cp_session hst c (by omega) (by omega) (by omega)) (fun E hE => by simp at hE) (Or.inl ⟨⟨hx, by decide, by decide⟩, M, fnd_self hlow, Or.inr ⟨e6, rfl, rfl⟩⟩)

set_option maxRecDepth 100000 in
set_option maxHeartbeats 400000 in
theorem q_session1 {l : Launch} {D : va_G} {cy : CY} (hst : l.stackTraces = false) {ba : Nat → Nat} {ob : Nat} {h : HS} {V M : MS} (R : RC ob h M) {x se : Int} {pl : List Int} {done rest : List Seg} {s1 s2 s3 s4 : Int} (hlow : IsLow M (M 27)) (hx : 0 ≤ x ∧ x ≤ 19) (hp : PR M x pl) (hs : sgs M pl = done ++ (s1, s2, s3, s4) :: rest) (hse : se = (done.length : Int)) (hd : done.length ≤ 1000) : Ct l D cy yX6_session (Cond.code yX6_session cX6_session 5 (some .int)) 6 87 1 6 (LA cy ba) [vr (some ob), vi x, vi se, vi 1] (h, V) (fun r q9 => r = .ok (some (vi (tmOf M s2 - tmOf M s1))) ∧ ∃ h', q9 = (h', V) ∧ RC ob h' M) := by
  obtain ⟨A, lz, f, ow, rfl, c⟩ := R
  have sM := c.1.mi
  have hN := sM.n
  have hord := c.2.2.2.1.2
  have e1 := hp.uniq (hord.pr x)
  have e2 := gsV_some (what := 1) hs hse (by decide)
  have e3 : sgV M (s1, s2, s3, s4) 1 = (tmOf M s2 - tmOf M s1) := by simp [sgV]
  rw [e3] at e2
  rw [e1] at e2 hs
  have e4 := gsV_get sM hord x se 1 (by decide)
  have e5 : (sgs M (prof M lz x)).length = done.length + (rest.length + 1) := by rw [hs, List.length_append, List.length_cons]
  have e6 : ¬ gsV M (prof M lz x) se 1 = -2 := by
    rcases e4 with ⟨-, g⟩ | ⟨_, -, -, -, -, g, -⟩
    · omega
    · omega
  rw [← e2]
  exact Ct.q (cp_session hst c (by omega) (by omega) (by omega)) (fun E hE => by simp at hE) (Or.inl ⟨⟨hx, by decide, by decide⟩, M, fnd_self hlow, Or.inr ⟨e6, rfl, rfl⟩⟩)

set_option maxRecDepth 100000 in
set_option maxHeartbeats 400000 in
theorem q_session2 {l : Launch} {D : va_G} {cy : CY} (hst : l.stackTraces = false) {ba : Nat → Nat} {ob : Nat} {h : HS} {V M : MS} (R : RC ob h M) {x se : Int} {pl : List Int} {done rest : List Seg} {s1 s2 s3 s4 : Int} (hlow : IsLow M (M 27)) (hx : 0 ≤ x ∧ x ≤ 19) (hp : PR M x pl) (hs : sgs M pl = done ++ (s1, s2, s3, s4) :: rest) (hse : se = (done.length : Int)) (hd : done.length ≤ 1000) : Ct l D cy yX6_session (Cond.code yX6_session cX6_session 5 (some .int)) 6 87 1 6 (LA cy ba) [vr (some ob), vi x, vi se, vi 2] (h, V) (fun r q9 => r = .ok (some (vi s3)) ∧ ∃ h', q9 = (h', V) ∧ RC ob h' M) := by
  obtain ⟨A, lz, f, ow, rfl, c⟩ := R
  have sM := c.1.mi
  have hN := sM.n
  have hord := c.2.2.2.1.2
  have e1 := hp.uniq (hord.pr x)
  have e2 := gsV_some (what := 2) hs hse (by decide)
  have e3 : sgV M (s1, s2, s3, s4) 2 = s3 := by simp [sgV]
  rw [e3] at e2
  rw [e1] at e2 hs
  have e4 := gsV_get sM hord x se 2 (by decide)
  have e5 : (sgs M (prof M lz x)).length = done.length + (rest.length + 1) := by rw [hs, List.length_append, List.length_cons]
  have e6 : ¬ gsV M (prof M lz x) se 2 = -2 := by
    rcases e4 with ⟨-, g⟩ | ⟨_, -, -, -, -, g, -⟩
    · omega
    · omega
  rw [← e2]
  exact Ct.q (cp_session hst c (by omega) (by omega) (by omega)) (fun E hE => by simp at hE) (Or.inl ⟨⟨hx, by decide, by decide⟩, M, fnd_self hlow, Or.inr ⟨e6, rfl, rfl⟩⟩)

set_option maxRecDepth 100000 in
set_option maxHeartbeats 400000 in
theorem q_session3 {l : Launch} {D : va_G} {cy : CY} (hst : l.stackTraces = false) {ba : Nat → Nat} {ob : Nat} {h : HS} {V M : MS} (R : RC ob h M) {x se : Int} {pl : List Int} {done rest : List Seg} {s1 s2 s3 s4 : Int} (hlow : IsLow M (M 27)) (hx : 0 ≤ x ∧ x ≤ 19) (hp : PR M x pl) (hs : sgs M pl = done ++ (s1, s2, s3, s4) :: rest) (hse : se = (done.length : Int)) (hd : done.length ≤ 1000) : Ct l D cy yX6_session (Cond.code yX6_session cX6_session 5 (some .int)) 6 87 1 6 (LA cy ba) [vr (some ob), vi x, vi se, vi 3] (h, V) (fun r q9 => r = .ok (some (vi s4)) ∧ ∃ h', q9 = (h', V) ∧ RC ob h' M) := by
  obtain ⟨A, lz, f, ow, rfl, c⟩ := R
  have sM := c.1.mi
  have hN := sM.n
  have hord := c.2.2.2.1.2
  have e1 := hp.uniq (hord.pr x)
  have e2 := gsV_some (what := 3) hs hse (by decide)
  have e3 : sgV M (s1, s2, s3, s4) 3 = s4 := by simp [sgV]
  rw [e3] at e2
  rw [e1] at e2 hs
  have e4 := gsV_get sM hord x se 3 (by decide)
  have e5 : (sgs M (prof M lz x)).length = done.length + (rest.length + 1) := by rw [hs, List.length_append, List.length_cons]
  have e6 : ¬ gsV M (prof M lz x) se 3 = -2 := by
    rcases e4 with ⟨-, g⟩ | ⟨_, -, -, -, -, g, -⟩
    · omega
    · omega
  rw [← e2]
  exact Ct.q (cp_session hst c (by omega) (by omega) (by omega)) (fun E hE => by simp at hE) (Or.inl ⟨⟨hx, by decide, by decide⟩, M, fnd_self hlow, Or.inr ⟨e6, rfl, rfl⟩⟩)

set_option maxRecDepth 100000 in
set_option maxHeartbeats 400000 in
theorem q_event {l : Launch} {D : va_G} {cy : CY} (hst : l.stackTraces = false) {ba : Nat → Nat} {ob : Nat} {h : HS} {V M : MS} (R : RC ob h M) {its dv who what frm time : Int} (h1 : 0 ≤ its ∧ its ≤ 999) (h2 : 0 ≤ dv ∧ dv ≤ 9) (h3 : -1 ≤ who ∧ who ≤ 9) (h4 : 0 ≤ what ∧ what ≤ 4) (h5 : -1 ≤ frm ∧ frm ≤ 9) (h6 : 0 ≤ time ∧ time ≤ 100000) (h10 : M 10 its = 0) (hn : M 2 0 < 200) : Ct l D cy yX6_event (Cond.code yX6_event cX6_event 10 (some .boolean)) 6 87 1 9 (LA cy ba) [vr (some ob), vi its, vi dv, vi who, vi what, vi frm, vi time] (h, V) (fun r q9 => r = .ok (some (vi 1)) ∧ ∃ h', q9 = (h', V) ∧ RC ob h' (evM M its dv who what frm time)) := by
  obtain ⟨A, lz, f, ow, rfl, c⟩ := R
  have sM := c.1.mi
  have hN := sM.n
  have hord := c.2.2.2.1.2

  exact Ct.q (cp_event hst c (by omega) (by omega) (by omega) (by omega) (by omega) (by omega)) (fun E hE => by simp at hE) (Or.inl ⟨⟨h1, h2, h3, h4, h5, h6⟩, h10, hn, rfl, rfl⟩)

set_option maxRecDepth 100000 in
set_option maxHeartbeats 400000 in
theorem q_event2 {l : Launch} {D : va_G} {cy : CY} (hst : l.stackTraces = false) {ba : Nat → Nat} {ob : Nat} {h : HS} {V M : MS} (R : RC ob h M) {its dv who what frm time : Int} (h1 : 0 ≤ its ∧ its ≤ 999) (h2 : 0 ≤ dv ∧ dv ≤ 9) (h3 : -1 ≤ who ∧ who ≤ 9) (h4 : 0 ≤ what ∧ what ≤ 4) (h5 : -1 ≤ frm ∧ frm ≤ 9) (h6 : 0 ≤ time ∧ time ≤ 100000) (h10 : M 10 its = 1) : Ct l D cy yX6_event (Cond.code yX6_event cX6_event 10 (some .boolean)) 6 87 1 9 (LA cy ba) [vr (some ob), vi its, vi dv, vi who, vi what, vi frm, vi time] (h, V) (fun r q9 => r = .ok (some (vi 0)) ∧ ∃ h', q9 = (h', V) ∧ RC ob h' M) := by
  obtain ⟨A, lz, f, ow, rfl, c⟩ := R
  have sM := c.1.mi
  have hN := sM.n
  have hord := c.2.2.2.1.2

  exact Ct.q (cp_event hst c (by omega) (by omega) (by omega) (by omega) (by omega) (by omega)) (fun E hE => by simp at hE) (Or.inr (Or.inl ⟨⟨h1, h2, h3, h4, h5, h6⟩, h10, rfl, rfl⟩))

set_option maxRecDepth 100000 in
set_option maxHeartbeats 400000 in
theorem q_skew {l : Launch} {D : va_G} {cy : CY} (hst : l.stackTraces = false) {ba : Nat → Nat} {ob : Nat} {h : HS} {V M : MS} (R : RC ob h M) {dv its : Int} (h1 : 0 ≤ dv ∧ dv ≤ 9) (h2 : -600 ≤ its ∧ its ≤ 600) : Ct l D cy yX6_skew (Cond.code yX6_skew cX6_skew 6 (some .int)) 6 110 1 6 (LA cy ba) [vr (some ob), vi dv, vi its] (h, V) (fun r q9 => r = .ok (some (vi (M 11 dv))) ∧ ∃ h', q9 = (h', V) ∧ RC ob h' (mset M 11 dv its)) := by
  obtain ⟨A, lz, f, ow, rfl, c⟩ := R
  have sM := c.1.mi
  have hN := sM.n
  have hord := c.2.2.2.1.2

  exact Ct.q (cp_skew hst c (by omega) (by omega)) (fun E hE => by simp at hE) (Or.inl ⟨⟨h1, h2⟩, rfl, rfl⟩)

set_option maxRecDepth 100000 in
set_option maxHeartbeats 400000 in
theorem q_share {l : Launch} {D : va_G} {cy : CY} (hst : l.stackTraces = false) {ba : Nat → Nat} {ob : Nat} {h : HS} {V M : MS} (R : RC ob h M) {dv is : Int} (h1 : 0 ≤ dv ∧ dv ≤ 9) (h2 : is = 0 ∨ is = 1) : Ct l D cy yX6_share (Cond.code yX6_share cX6_share 5 (some .boolean)) 6 107 1 6 (LA cy ba) [vr (some ob), vi dv, vi is] (h, V) (fun r q9 => r = .ok (some (vi (M 12 dv))) ∧ ∃ h', q9 = (h', V) ∧ RC ob h' (mset M 12 dv is)) := by
  obtain ⟨A, lz, f, ow, rfl, c⟩ := R
  have sM := c.1.mi
  have hN := sM.n
  have hord := c.2.2.2.1.2

  exact Ct.q (cp_share hst c (by omega) h2) (fun E hE => by simp at hE) (Or.inl ⟨h1, rfl, rfl⟩)

set_option maxRecDepth 100000 in
set_option maxHeartbeats 400000 in
theorem q_link {l : Launch} {D : va_G} {cy : CY} (hst : l.stackTraces = false) {ba : Nat → Nat} {ob : Nat} {h : HS} {V M : MS} (R : RC ob h M) {dv who is : Int} (h1 : 0 ≤ dv ∧ dv ≤ 9) (h2 : 0 ≤ who ∧ who ≤ 9) (h3 : is = 0 ∨ is = 1) : Ct l D cy yX6_link (Cond.code yX6_link cX6_link 7 (some .boolean)) 6 107 1 6 (LA cy ba) [vr (some ob), vi dv, vi who, vi is] (h, V) (fun r q9 => r = .ok (some (vi (1 - M 13 (10 * dv + who)))) ∧ ∃ h', q9 = (h', V) ∧ RC ob h' (mset M 13 (10 * dv + who) (1 - is))) := by
  obtain ⟨A, lz, f, ow, rfl, c⟩ := R
  have sM := c.1.mi
  have hN := sM.n
  have hord := c.2.2.2.1.2

  exact Ct.q (cp_link hst c (by omega) (by omega) h3) (fun E hE => by simp at hE) (Or.inl ⟨⟨h1, h2⟩, rfl, rfl⟩)

set_option maxRecDepth 100000 in
set_option maxHeartbeats 400000 in
theorem q_consent {l : Launch} {D : va_G} {cy : CY} (hst : l.stackTraces = false) {ba : Nat → Nat} {ob : Nat} {h : HS} {V M : MS} (R : RC ob h M) {x frm is : Int} (h1 : 0 ≤ x ∧ x ≤ 19) (h2 : 0 ≤ frm ∧ frm ≤ M 1 0) (h3 : is = 0 ∨ is = 1) (h4 : M 14 (4 * x) < 20) : Ct l D cy yX6_consent (Cond.code yX6_consent cX6_consent 7 (some .int)) 6 82 1 6 (LA cy ba) [vr (some ob), vi x, vi 0, vi frm, vi is] (h, V) (fun r q9 => r = .ok (some (vi (M 14 (4 * x) + 1))) ∧ ∃ h', q9 = (h', V) ∧ RC ob h' (conM M (4 * x) frm is)) := by
  obtain ⟨A, lz, f, ow, rfl, c⟩ := R
  have sM := c.1.mi
  have hN := sM.n
  have hord := c.2.2.2.1.2
  rw [show 4 * x = 4 * x + 0 by omega] at h4 ⊢
  exact Ct.q (cp_consent hst c (by omega) (by omega) (by have := sM.now; omega) h3) (fun E hE => by simp at hE) (Or.inl ⟨⟨h1, by decide, h2⟩, h4, rfl, rfl⟩)

set_option maxRecDepth 100000 in
set_option maxHeartbeats 400000 in
theorem q_group {l : Launch} {D : va_G} {cy : CY} (hst : l.stackTraces = false) {ba : Nat → Nat} {ob : Nat} {h : HS} {V M : MS} (R : RC ob h M)  (h1 : M 17 0 < 8) : Ct l D cy yX6_group (Cond.code yX6_group cX6_group 6 (some .int)) 6 82 1 7 (LA cy ba) [vr (some ob), vi 0, vi 1, vi 2, vi 2] (h, V) (fun r q9 => r = .ok (some (vi (M 17 0))) ∧ ∃ h', q9 = (h', V) ∧ RC ob h' (grpM M 0 1 2 2)) := by
  obtain ⟨A, lz, f, ow, rfl, c⟩ := R
  have sM := c.1.mi
  have hN := sM.n
  have hord := c.2.2.2.1.2

  exact Ct.q (cp_group hst c (by omega) (by omega) (by omega) (by omega)) (fun E hE => by simp at hE) (Or.inl ⟨⟨by decide, by decide, by decide, by decide⟩, h1, rfl, rfl⟩)

/-- what forgetting leaves -/
def forM (M : MS) (x : Int) : MS := fun k j => if k = 9 then (if 0 ≤ j ∧ j < M 2 0 ∧ blg M j x then 1 else M 9 j) else if k = 14 then (if 0 ≤ j ∧ j < 80 ∧ M 27 (j / 4) = M 27 x then 0 else M 14 j) else M k j
theorem forM_r (M : MS) (x : Int) : ForR M (forM M x) x := by
  refine ⟨fun k h1 h2 => ?_, fun j => ?_, fun j => ?_⟩
  · funext j
    simp only [forM]
    rw [if_neg h1, if_neg h2]
  · exact if_pos rfl
  · exact (if_neg (by decide)).trans (if_pos rfl)

set_option maxRecDepth 100000 in
set_option maxHeartbeats 400000 in
theorem q_forget {l : Launch} {D : va_G} {cy : CY} (hst : l.stackTraces = false) {ba : Nat → Nat} {ob : Nat} {h : HS} {V M : MS} (R : RC ob h M) {x : Int} (hlow : IsLow M (M 27)) (hx : 0 ≤ x ∧ x ≤ 19) : Ct l D cy yX6_forget (Cond.code yX6_forget cX6_forget 8 (some .int)) 7 107 1 6 (LA cy ba) [vr (some ob), vi x] (h, V) (fun r q9 => r = .ok (some (vi (evF M x (-1) (M 2 0).toNat))) ∧ ∃ h', q9 = (h', V) ∧ RC ob h' (forM M x)) := by
  obtain ⟨A, lz, f, ow, rfl, c⟩ := R
  have sM := c.1.mi
  have hN := sM.n
  have hord := c.2.2.2.1.2

  exact Ct.q (cp_forget hst c (by omega)) (fun E hE => by simp at hE) (Or.inl ⟨hx, M, forM M x, fnd_self hlow, forM_r M x, rfl, rfl⟩)

set_option maxRecDepth 100000 in
set_option maxHeartbeats 400000 in
theorem q_pass {l : Launch} {D : va_G} {cy : CY} (hst : l.stackTraces = false) {ba : Nat → Nat} {ob : Nat} {h : HS} {V M : MS} (R : RC ob h M) {mi : Int} (h1 : 1 ≤ mi ∧ mi ≤ 20000) (h2 : M 1 0 + mi ≤ 100000) : Ct l D cy yX6_pass (Cond.code yX6_pass cX6_pass 2 (some .int)) 6 82 1 6 (LA cy ba) [vr (some ob), vi mi] (h, V) (fun r q9 => r = .ok (some (vi (M 1 0 + mi))) ∧ ∃ h', q9 = (h', V) ∧ RC ob h' (mset M 1 0 (M 1 0 + mi))) := by
  obtain ⟨A, lz, f, ow, rfl, c⟩ := R
  have sM := c.1.mi
  have hN := sM.n
  have hord := c.2.2.2.1.2

  exact Ct.q (cp_pass hst c (by omega)) (fun E hE => by simp at hE) (Or.inl ⟨h1, h2, rfl, rfl⟩)

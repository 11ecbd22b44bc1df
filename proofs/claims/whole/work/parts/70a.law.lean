/-! The law's twenty calls: after each, the object and the reference stand beside each other as before -/
abbrev RLaw : Room := { frames := 11, cells := 601024, slots := 7293034, locals := 396 }
abbrev LL (bs ob b0 ao : Nat) (i : Int) : List (Nat × Value) := [(0, vr (some bs)), (1, vr (some ob)), (2, vr (some b0)), (3, vr (some ao)), (4, vi i)]
theorem uqIAE {E : String} {k t : Int} (h : (E, k) ∈ xIAE) (g : (E, t) ∈ xIAE) : k = t := by
  simp only [List.mem_cons, List.not_mem_nil, or_false, Prod.mk.injEq] at h g
  rw [h.2, g.2]
theorem uqIOB {E : String} {k t : Int} (h : (E, k) ∈ xIOB) (g : (E, t) ∈ xIOB) : k = t := by
  simp only [List.mem_cons, List.not_mem_nil, or_false, Prod.mk.injEq] at h g
  rw [h.2, g.2]
theorem uqIS {E : String} {k t : Int} (h : (E, k) ∈ xIS) (g : (E, t) ∈ xIS) : k = t := by
  simp only [List.mem_cons, List.not_mem_nil, or_false, Prod.mk.injEq] at h g
  rcases h with ⟨rfl, rfl⟩ | ⟨rfl, rfl⟩ <;> rcases g with ⟨e, rfl⟩ | ⟨e, rfl⟩
  · rfl
  · exact absurd e (by decide)
  · exact absurd e (by decide)
  · rfl
theorem uqOI {E : String} {k t : Int} (h : (E, k) ∈ xOI) (g : (E, t) ∈ xOI) : k = t := by
  simp only [List.mem_cons, List.not_mem_nil, or_false, Prod.mk.injEq] at h g
  rcases h with ⟨rfl, rfl⟩ | ⟨rfl, rfl⟩ <;> rcases g with ⟨e, rfl⟩ | ⟨e, rfl⟩
  · rfl
  · exact absurd e (by decide)
  · exact absurd e (by decide)
  · rfl
theorem rgIAE {E : String} {k : Int} (h : (E, k) ∈ xIAE) : 1 ≤ k ∧ k ≤ 2 := by
  simp only [List.mem_cons, List.not_mem_nil, or_false, Prod.mk.injEq] at h
  omega
theorem rgIOB {E : String} {k : Int} (h : (E, k) ∈ xIOB) : 1 ≤ k ∧ k ≤ 2 := by
  simp only [List.mem_cons, List.not_mem_nil, or_false, Prod.mk.injEq] at h
  omega
theorem rgIS {E : String} {k : Int} (h : (E, k) ∈ xIS) : 1 ≤ k ∧ k ≤ 2 := by
  simp only [List.mem_cons, List.not_mem_nil, or_false, Prod.mk.injEq] at h
  omega
theorem rgOI {E : String} {k : Int} (h : (E, k) ∈ xOI) : 1 ≤ k ∧ k ≤ 2 := by
  simp only [List.mem_cons, List.not_mem_nil, or_false, Prod.mk.injEq] at h
  omega

/-! What a session's row holds -/
def SgOK (M : MS) (B : Int) (s : Seg) : Prop := (0 ≤ s.1 ∧ s.1 < M 2 0) ∧ (0 ≤ s.2.1 ∧ s.2.1 < M 2 0) ∧ (1 ≤ s.2.2.1 ∧ s.2.2.1 ≤ B) ∧ (-1 ≤ s.2.2.2 ∧ s.2.2.2 ≤ 9) ∧ tmOf M s.1 ≤ tmOf M s.2.1
theorem sgGo_ok {M : MS} (hM : MI M) : ∀ (r : List Int) (f la sz c B : Int), (0 ≤ f ∧ f < M 2 0) → (0 ≤ la ∧ la < M 2 0) → 1 ≤ sz → sz + r.length ≤ B → (-1 ≤ c ∧ c ≤ 9) → tmOf M f ≤ tmOf M la → (la :: r).Pairwise (ahd M) → (∀ e ∈ r, 0 ≤ e ∧ e < M 2 0) → ∀ s ∈ sgGo M f la sz c r, SgOK M B s := by
  intro r
  induction r with
  | nil =>
    intro f la sz c B hf hla hsz hB hc ht hp hr s hs
    simp only [sgGo, List.mem_singleton] at hs
    subst hs
    simp only [List.length_nil] at hB
    exact ⟨hf, hla, ⟨hsz, by simp only []; omega⟩, hc, ht⟩
  | cons x r ih =>
    intro f la sz c B hf hla hsz hB hc ht hp hr s hs
    have hx := hr x List.mem_cons_self
    obtain ⟨-, -, -, -, hcx, -⟩ := hM.ev x hx.1 hx.2
    have hp2 := List.pairwise_cons.mp hp
    have hlx : tmOf M la ≤ tmOf M x := by
      have := hp2.1 x List.mem_cons_self
      simp only [ahd] at this
      omega
    have hr2 : ∀ e ∈ r, 0 ≤ e ∧ e < M 2 0 := fun e he => hr e (List.mem_cons_of_mem _ he)
    simp only [List.length_cons] at hB
    simp only [sgGo] at hs
    split at hs
    · rcases List.mem_cons.mp hs with h | h
      · subst h
        exact ⟨hf, hla, ⟨hsz, by simp only []; omega⟩, hc, ht⟩
      · exact ih x x 1 (M 7 x) B hx hx (Int.le_refl _) (by omega) hcx (Int.le_refl _) hp2.2 hr2 s h
    · refine ih f x (sz + 1) _ B hf hx (by omega) (by omega) ?_ (by omega) hp2.2 hr2 s hs
      split
      · exact hcx
      · exact hc
theorem sgs_ok {M : MS} (hM : MI M) {p : List Int} (hp : p.Pairwise (ahd M)) (hr : ∀ e ∈ p, 0 ≤ e ∧ e < M 2 0) : ∀ s ∈ sgs M p, SgOK M p.length s := by
  cases p with
  | nil => intro s hs; cases hs
  | cons x r =>
    have hx := hr x List.mem_cons_self
    obtain ⟨-, -, -, -, hcx, -⟩ := hM.ev x hx.1 hx.2
    exact sgGo_ok hM r x x 1 (M 7 x) _ hx hx (Int.le_refl _) (by simp only [List.length_cons]; omega) hcx (Int.le_refl _) hp (fun e he => hr e (List.mem_cons_of_mem _ he))
theorem sgV_in {M : MS} (hM : MI M) {s : Seg} {B what : Int} (h : SgOK M B s) (hB : B ≤ 200) : -1 ≤ sgV M s what ∧ sgV M s what ≤ 100600 := by
  obtain ⟨h1, h2, h3, h4, h5⟩ := h
  have t1 := tmOf_in hM h1.1 h1.2
  have t2 := tmOf_in hM h2.1 h2.2
  simp only [sgV]
  split
  · omega
  · split
    · omega
    · split <;> omega
theorem sgs_len {M : MS} : ∀ (r : List Int) (f la sz c : Int), (sgGo M f la sz c r).length ≤ r.length + 1 := by
  intro r
  induction r with
  | nil => intro f la sz c; simp [sgGo]
  | cons x r ih =>
    intro f la sz c
    simp only [sgGo]
    split
    · have := ih x x 1 (M 7 x)
      simp only [List.length_cons]
      omega
    · have := ih f x (sz + 1) (if c = -1 then M 7 x else c)
      simp only [List.length_cons]
      omega
theorem sgs_len2 {M : MS} (p : List Int) : (sgs M p).length ≤ p.length := by
  cases p with
  | nil => simp [sgs]
  | cons x r => exact sgs_len r x x 1 (M 7 x)
theorem prof_in {M : MS} {l : List Int} (hl : Ord M l) (node : Int) : (prof M l node).Pairwise (ahd M) ∧ ∀ e ∈ prof M l node, 0 ≤ e ∧ e < M 2 0 := ⟨(hl.pr node).1, fun e he => (((hl.pr node).2 e).mp he).1⟩
theorem prof_len {M : MS} (hM : MI M) {l : List Int} (hl : Ord M l) (node : Int) : ((prof M l node).length : Int) ≤ 200 := by
  have h1 := hl.len hM.n.1
  have h2 : (prof M l node).length ≤ l.length := List.length_filter_le _ _
  have h3 := hM.n
  omega
theorem gsV_get {M : MS} (hM : MI M) {l : List Int} (hl : Ord M l) (node session what : Int) (hw : what < 4) : (gsV M (prof M l node) session what = -2 ∧ (session < 0 ∨ ((sgs M (prof M l node)).length : Int) ≤ session)) ∨ ∃ s, (sgs M (prof M l node))[session.toNat]? = some s ∧ 0 ≤ session ∧ SgOK M 200 s ∧ gsV M (prof M l node) session what = sgV M s what ∧ -1 ≤ gsV M (prof M l node) session what ∧ gsV M (prof M l node) session what ≤ 100600 := by
  by_cases h : 0 ≤ session ∧ session < ((sgs M (prof M l node)).length : Int)
  · right
    have hlt : session.toNat < (sgs M (prof M l node)).length := by omega
    have hk := sgs_ok hM (prof_in hl node).1 (prof_in hl node).2 _ (List.getElem_mem hlt)
    have h9 := prof_len hM hl node
    have hv : gsV M (prof M l node) session what = sgV M ((sgs M (prof M l node))[session.toNat]) what := by
      unfold gsV
      rw [if_neg (by omega), if_pos h.1, List.getElem?_eq_getElem hlt]
    have h8 : SgOK M 200 ((sgs M (prof M l node))[session.toNat]) := ⟨hk.1, hk.2.1, ⟨hk.2.2.1.1, by have := hk.2.2.1.2; omega⟩, hk.2.2.2⟩
    have h7 := sgV_in hM (what := what) h8 (Int.le_refl _)
    exact ⟨_, List.getElem?_eq_getElem hlt, h.1, h8, hv, by rw [hv]; exact h7.1, by rw [hv]; exact h7.2⟩
  · exact Or.inl ⟨gsV_none (by omega) hw, by omega⟩
theorem gsV_rng {M : MS} (hM : MI M) {l : List Int} (hl : Ord M l) (node session what : Int) : -2147483648 ≤ gsV M (prof M l node) session what ∧ gsV M (prof M l node) session what ≤ 2147483647 := by
  by_cases hw : what < 4
  · rcases gsV_get hM hl node session what hw with ⟨h, -⟩ | ⟨s, -, -, -, -, h1, h2⟩ <;> omega
  · have h1 := sgs_len2 (M := M) (prof M l node)
    have h2 := prof_len hM hl node
    by_cases h4 : what = 4
    · subst h4; rw [gsV_all]; omega
    · unfold gsV
      rw [if_neg h4]
      split
      · split
        · rename_i s hs
          have hk := sgs_ok hM (prof_in hl node).1 (prof_in hl node).2 s (List.mem_of_getElem? hs)
          have := sgV_in hM (what := what) (B := ((prof M l node).length : Int)) hk h2
          omega
        · omega
      · omega

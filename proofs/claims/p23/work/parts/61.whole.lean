/-! The object and the reference beside each other -/
def CX (h : HS) (A : AD) (M : MS) : Prop := (∀ e, 0 ≤ e → e < M 2 0 → fI h 17 (ev A e) = 0 ∨ fI h 17 (ev A e) = 1) ∧ (∀ j, 0 ≤ j → j < 1000 → aI h (cM A) j = M 10 j) ∧ fI h 67 (cO A) = M 17 0 ∧ fI h 68 (cO A) = M 2 0 ∧ fI h 69 (cO A) = M 24 0 ∧ fI h 70 (cO A) = M 26 0 ∧ fI h 71 (cO A) = M 1 0 ∧ ∀ j, 0 ≤ j → j < M 24 0 → aI h (cW A) j = M 25 j
def CG (h : HS) (A : AD) (M : MS) : Prop := GL h A M (M 17 0).toNat 0 (fP h 65 (cO A)) ∧ fP h 66 (cO A) = (if M 17 0 = 0 then none else some (gp A (M 17 0 - 1))) ∧ ∀ g, 0 ≤ g → g < M 17 0 → BW (fI h 35 (gp A g)) (fun j => 0 ≤ j ∧ j < 20 ∧ M 22 (20 * g + j) = 1)
def CE (A : AD) (M : MS) : Prop := LcI A ∧ (∀ e, 0 ≤ e → e < M 2 0 → M 10 (M 3 e) = 1) ∧ (∀ e u, 0 ≤ e → e < M 2 0 → 0 ≤ u → u < M 2 0 → M 3 e = M 3 u → e = u) ∧ (∀ e, 0 ≤ e → e < M 2 0 → ¬ M 23 (10 + M 4 e) = 0 ∧ (¬ M 5 e = -1 → ¬ M 23 (M 5 e) = 0)) ∧ (∀ e, M 2 0 ≤ e → M 9 e = 0) ∧ ∀ j, 20 * M 17 0 ≤ j → M 22 j = 0
def CR (h : HS) (A : AD) (M : MS) (l : List Int) (f : Int → Int) (ow : Nat → Int) : Prop := SP h A M ∧ VO h A ∧ (LW h A f ∧ IsLow M f) ∧ (ChL h A l ∧ Ord M l) ∧ CNs h A M ow ∧ CX h A M ∧ CG h A M ∧ CE A M
def RC (ob : Nat) (h : HS) (M : MS) : Prop := ∃ A l f ow, cO A = ob ∧ CR h A M l f ow
section CRows
variable {fi fp : List Nat} {ai ar : Nat → Prop} {h h' : HS} {A : AD} {M M' : MS} {l : List Int} {f : Int → Int} {ow : Nat → Int} {ks : List Nat}
theorem GL.at : ∀ {n : Nat} {g : Int} {u : Option Nat}, GL h A M n g u → ∀ i, g ≤ i → i < g + n → grpOK h A M i := by
  intro n
  induction n with
  | zero => intro g u _ i h0 h1; omega
  | succ n ih =>
    rintro g u ⟨e1, e2, e3⟩ i h0 h1
    by_cases hi : i = g
    · subst hi; exact e2
    · exact ih e3 i (by omega) (by omega)
theorem CG.ok (c : CG h A M) {g : Int} (h0 : 0 ≤ g) (h1 : g < M 17 0) : grpOK h A M g := c.1.at g h0 (by omega)
theorem CG.inj (c : CG h A M) {g u : Int} (h0 : 0 ≤ g) (h1 : g < M 17 0) (h2 : 0 ≤ u) (h3 : u < M 17 0) (q : gp A u = gp A g) : u = g := by
  have e1 := (c.ok h0 h1).2.1
  have e2 := (c.ok h2 h3).2.1
  rw [q, e1] at e2
  exact e2.symm
theorem CX.fr (c : CX h A M) (a : Fr fi fp ai ar h h') (h1 : ¬ ai (cM A)) (h2 : ¬ ai (cW A)) (hi : ∀ x ∈ fi, x ∉ [17, 67, 68, 69, 70, 71] := by decide) : CX h' A M := by
  have gi : ∀ x, x ∈ [17, 67, 68, 69, 70, 71] → fI h' x = fI h x := fun x q => a.2.2.1 x (fun q' => hi x q' q)
  obtain ⟨c1, c2, c3, c4, c5, c6, c7, c8⟩ := c
  exact ⟨fun e e0 e1 => by rw [gi 17 (by decide)]; exact c1 e e0 e1, fun j j0 j1 => by rw [a.2.2.2.2.1 _ h1]; exact c2 j j0 j1, by rw [gi 67 (by decide)]; exact c3, by rw [gi 68 (by decide)]; exact c4, by rw [gi 69 (by decide)]; exact c5, by rw [gi 70 (by decide)]; exact c6, by rw [gi 71 (by decide)]; exact c7, fun j j0 j1 => by rw [a.2.2.2.2.1 _ h2]; exact c8 j j0 j1⟩
theorem CX.sm (c : CX h A M) (g : Sm ks M M') (hk : ∀ x ∈ ks, x ∉ [1, 2, 10, 17, 24, 25, 26] := by decide) : CX h A M' := by
  have gi : ∀ x, x ∈ [1, 2, 10, 17, 24, 25, 26] → M' x = M x := fun x q => g x (fun q' => hk x q' q)
  simp only [CX, gi 1 (by decide), gi 2 (by decide), gi 10 (by decide), gi 17 (by decide), gi 24 (by decide), gi 25 (by decide), gi 26 (by decide)]
  exact c
theorem CG.fr (c : CG h A M) (a : Fr fi fp ai ar h h') (hi : ∀ x ∈ fi, x ∉ [30, 31, 32, 33, 34] := by decide) (h35 : 35 ∉ fi := by decide) (hp : ∀ x ∈ fp, x ∉ [36, 65, 66] := by decide) : CG h' A M := by
  have gp' : ∀ x, x ∈ [36, 65, 66] → fP h' x = fP h x := fun x q => a.2.2.2.1 x (fun q' => hp x q' q)
  obtain ⟨c1, c2, c3⟩ := c
  exact ⟨by rw [gp' 65 (by decide)]; exact a.gl c1 hi (fun q => hp 36 q (by decide)), by rw [gp' 66 (by decide)]; exact c2, fun g g0 g1 => by rw [a.2.2.1 35 h35]; exact c3 g g0 g1⟩
theorem CG.sm (c : CG h A M) (g : Sm ks M M') (hk : ∀ x ∈ ks, x ∉ [17, 18, 19, 20, 21, 22] := by decide) : CG h A M' := by
  have hk2 : ∀ k ∈ ks, k ∉ [18, 19, 20, 21] := fun k q g => hk k q (by simp only [List.mem_cons, List.not_mem_nil, or_false] at g ⊢; omega)
  have gi : ∀ x, x ∈ [17, 18, 19, 20, 21, 22] → M' x = M x := fun x q => g x (fun q' => hk x q' q)
  obtain ⟨c1, c2, c3⟩ := c
  refine ⟨?_, by rw [gi 17 (by decide)]; exact c2, fun u u0 u1 => ?_⟩
  · rw [gi 17 (by decide)]; exact g.gl c1 hk2
  · rw [gi 17 (by decide)] at u1
    rw [gi 22 (by decide)]
    exact c3 u u0 u1
theorem CE.sm (c : CE A M) (g : Sm ks M M') (hk : ∀ x ∈ ks, x ∉ [2, 3, 4, 5, 9, 10, 17, 22, 23] := by decide) : CE A M' := by
  have gi : ∀ x, x ∈ [2, 3, 4, 5, 9, 10, 17, 22, 23] → M' x = M x := fun x q => g x (fun q' => hk x q' q)
  simp only [CE, gi 2 (by decide), gi 3 (by decide), gi 4 (by decide), gi 5 (by decide), gi 9 (by decide), gi 10 (by decide), gi 17 (by decide), gi 22 (by decide), gi 23 (by decide)]
  exact c
theorem CR.hl (c : CR h A M l f ow) : ∀ e ∈ l, 0 ≤ e ∧ e < M 2 0 := fun e he => ((c.2.2.2.1.2.2 e).mp he).1
theorem CR.hll (c : CR h A M l f ow) : (l.length : Int) ≤ 200 := Int.le_trans (c.2.2.2.1.2.len c.1.mi.n.1) c.1.mi.n.2
/-- a call that leaves all but the cutter's rows -/
theorem CR.on (c : CR h A M l f ow) (a : Fr fi fp nA nA h h') (hi : ∀ x ∈ fi, x ∈ [46, 50, 51, 52, 53, 54] := by decide) (hp : fp = [] := by rfl) : CR h' A M l f ow := by
  obtain ⟨c1, c2, c3, c4, c5, c6, c7, c8⟩ := c
  have hq : ∀ (L : List Nat), (∀ x ∈ [46, 50, 51, 52, 53, 54], x ∉ L) → ∀ x ∈ fi, x ∉ L := fun L hL x hx => hL x (hi x hx)
  subst hp
  exact ⟨a.sp c1 (hq _ (by decide)) (fun x q => by cases q), a.vo c2 id (fun x q => by cases q), ⟨a.lw c3.1 (by decide), c3.2⟩, ⟨a.ch c4.1 (by decide) (by decide) (by decide), c4.2⟩, a.cns c5 (fun _ _ _ => id) (fun q => hq [0] (by decide) 0 q (by decide)) (fun q => hq [1] (by decide) 1 q (by decide)) (by decide), c6.fr a id id (hq _ (by decide)), c7.fr a (hq _ (by decide)) (fun q => hq [35] (by decide) 35 q (by decide)) (fun x q => by cases q), c8⟩
theorem CR.fnd (c : CR h A M l f ow) (g : Fnd M M') : CR h A M' l f ow := by
  obtain ⟨c1, c2, c3, c4, c5, c6, c7, c8⟩ := c
  exact ⟨g.sm.sp (g.MI c1.mi) c1, c2, ⟨c3.1, g.sm.low c3.2⟩, ⟨c4.1, g.sm.ord c4.2⟩, g.sm.cns c5, c6.sm g.sm, c7.sm g.sm, c8.sm g.sm⟩
theorem RC.fnd {ob : Nat} (c : RC ob h M) (g : Fnd M M') : RC ob h M' := by
  obtain ⟨A, l, f, ow, e, c⟩ := c
  exact ⟨A, l, f, ow, e, c.fnd g⟩
/-- who is who, found anew -/
theorem low_new (hM : MI M) (hO : Ord M l) : IsLow M (l.foldl (jbF M) (fun k => k)) := by
  have := LwI.all hM l [] (fun k => k) (LwI.nil M) (fun e he => ((hO.2 e).mp he).1)
  exact LwI.low hO this
end CRows
/-- what a call of the object shows, and what it leaves, if the reference's call shows Qm -/
def CP (ob : Nat) (exs : List (String × Int)) (B : Int → Prop) (Qm : Except String (Option Value) → Int × MS → Prop) (r : Except String (Option Value)) (h' : HS) : Prop :=
  ((∃ v : Int, r = .ok (some (vi v)) ∧ B v) ∨ ∃ E c, r = .error E ∧ (E, c) ∈ exs) ∧ ∀ rm t' M', Qm rm (t', M') → RC ob h' M' ∧ ((∃ v : Int, r = .ok (some (vi v)) ∧ rm = .ok (some (vi v)) ∧ t' = 0) ∨ ∃ E, r = .error E ∧ (E, t') ∈ exs ∧ ∃ v : Int, rm = .ok (some (vi v)))

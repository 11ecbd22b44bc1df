/-! The chain of events -/
def LG (h : HS) (A : AD) : Option Nat → List Int → Option Nat → Prop
  | p, [], q => p = q
  | p, e :: t, q => p = some (ev A e) ∧ LG h A (fP h 18 (ev A e)) t q
theorem LG_app {h : HS} {A : AD} : ∀ {l1 l2 : List Int} {p q : Option Nat}, LG h A p (l1 ++ l2) q ↔ ∃ m, LG h A p l1 m ∧ LG h A m l2 q := by
  intro l1
  induction l1 with
  | nil =>
    intro l2 p q
    constructor
    · intro hh; exact ⟨p, rfl, hh⟩
    · rintro ⟨m, h1, h2⟩
      have h1 : p = m := h1
      rw [h1]; exact h2
  | cons e t ih =>
    intro l2 p q
    constructor
    · rintro ⟨h1, h2⟩
      obtain ⟨m, h3, h4⟩ := ih.mp h2
      exact ⟨m, ⟨h1, h3⟩, h4⟩
    · rintro ⟨m, ⟨h1, h3⟩, h4⟩
      exact ⟨h1, ih.mpr ⟨m, h3, h4⟩⟩
theorem LG_cong {h h' : HS} {A : AD} : ∀ {l : List Int} {p q : Option Nat}, (∀ e ∈ l, fP h' 18 (ev A e) = fP h 18 (ev A e)) → LG h A p l q → LG h' A p l q := by
  intro l
  induction l with
  | nil => intro p q _ hh; exact hh
  | cons e t ih =>
    rintro p q hc ⟨h1, h2⟩
    refine ⟨h1, ?_⟩
    rw [hc e List.mem_cons_self]
    exact ih (fun x hx => hc x (List.mem_cons_of_mem _ hx)) h2
theorem LG_last {h h' : HS} {A : AD} {l : List Int} {a : Int} {p q o : Option Nat} (hc : ∀ e ∈ l, fP h' 18 (ev A e) = fP h 18 (ev A e)) (ha : fP h' 18 (ev A a) = o) (hh : LG h A p (l ++ [a]) q) : LG h' A p (l ++ [a]) o := by
  obtain ⟨m, h1, h2⟩ := LG_app.mp hh
  exact LG_app.mpr ⟨m, LG_cong hc h1, h2.1, ha⟩
def insO (M : MS) (n : Int) : List Int → List Int
  | [] => [n]
  | x :: t => if ahd M x n then x :: insO M n t else n :: x :: t
theorem insO_eq {M : MS} {n : Int} : ∀ {l1 l2 : List Int}, (∀ x ∈ l1, ahd M x n) → (∀ x, l2.head? = some x → ¬ ahd M x n) → insO M n (l1 ++ l2) = l1 ++ n :: l2 := by
  intro l1
  induction l1 with
  | nil =>
    intro l2 _ h2
    cases l2 with
    | nil => rfl
    | cons x t =>
      have := h2 x rfl
      simp only [List.nil_append, insO]
      rw [if_neg this]
  | cons x t ih =>
    intro l2 h1 h2
    have hx := h1 x List.mem_cons_self
    simp only [List.cons_append, insO]
    rw [if_pos hx, ih (fun y hy => h1 y (List.mem_cons_of_mem _ hy)) h2]
theorem insO_mem {M : MS} {n : Int} : ∀ {l : List Int} (e : Int), e ∈ insO M n l ↔ e = n ∨ e ∈ l := by
  intro l
  induction l with
  | nil => intro e; simp [insO]
  | cons x t ih =>
    intro e
    simp only [insO]
    split
    · simp only [List.mem_cons, ih]
      constructor
      · rintro (h | h | h)
        · exact Or.inr (Or.inl h)
        · exact Or.inl h
        · exact Or.inr (Or.inr h)
      · rintro (h | h | h)
        · exact Or.inr (Or.inl h)
        · exact Or.inl h
        · exact Or.inr (Or.inr h)
    · simp only [List.mem_cons]
theorem insO_sort {M : MS} {n : Int} : ∀ {l : List Int}, l.Pairwise (ahd M) → n ∉ l → (insO M n l).Pairwise (ahd M) := by
  intro l
  induction l with
  | nil => intro _ _; simp [insO]
  | cons x t ih =>
    intro hp hn
    have hp2 := List.pairwise_cons.mp hp
    have hxn : x ≠ n := fun q => hn (q ▸ List.mem_cons_self)
    simp only [insO]
    split
    · rename_i hx
      refine List.pairwise_cons.mpr ⟨fun y hy => ?_, ih hp2.2 (fun q => hn (List.mem_cons_of_mem _ q))⟩
      rcases (insO_mem y).mp hy with rfl | hy
      · exact hx
      · exact hp2.1 y hy
    · rename_i hx
      have hnx : ahd M n x := (ahd_tot M hxn).resolve_left hx
      refine List.pairwise_cons.mpr ⟨fun y hy => ?_, hp⟩
      rcases List.mem_cons.mp hy with rfl | hy
      · exact hnx
      · exact ahd_tr M hnx (hp2.1 y hy)
def lastP (A : AD) (l : List Int) : Option Nat := (l.getLast?).map (ev A)
theorem lastP_nil (A : AD) : lastP A [] = none := rfl
theorem lastP_app (A : AD) (l : List Int) (a : Int) : lastP A (l ++ [a]) = some (ev A a) := by simp [lastP]
theorem lastP_cons (A : AD) (l : List Int) (a b : Int) (t : List Int) : lastP A (l ++ a :: b :: t) = lastP A (b :: t) := by
  simp [lastP, List.getLast?_append, List.getLast?_cons]
/-- the chain's two ends and what stands between -/
def ChL (h : HS) (A : AD) (l : List Int) : Prop := LG h A (fP h 20 (cH A)) l none ∧ fP h 21 (cH A) = lastP A l
/-- only next, first and last have changed -/
def OnlyN (h h' : HS) : Prop := kD h' = kD h ∧ fI h' = fI h ∧ ln h' = ln h ∧ aI h' = aI h ∧ aR h' = aR h ∧ ∀ f, f ≠ 18 → f ≠ 20 → f ≠ 21 → fP h' f = fP h f
theorem OnlyN.rf (h : HS) : OnlyN h h := ⟨rfl, rfl, rfl, rfl, rfl, fun _ _ _ _ => rfl⟩
theorem OnlyN.tr {h h1 h2 : HS} (a : OnlyN h h1) (b : OnlyN h1 h2) : OnlyN h h2 := ⟨b.1.trans a.1, b.2.1.trans a.2.1, b.2.2.1.trans a.2.2.1, b.2.2.2.1.trans a.2.2.2.1, b.2.2.2.2.1.trans a.2.2.2.2.1, fun f x y z => (b.2.2.2.2.2 f x y z).trans (a.2.2.2.2.2 f x y z)⟩
theorem fP_set_ne {h : HS} {f f' a : Nat} {o : Option Nat} (hf : f' ≠ f) : fP (setP h f a o) f' = fP h f' := by
  funext x
  rw [fP_setP, if_neg (fun q => hf q.1)]
theorem fP_set_at {h : HS} {f a x : Nat} {o : Option Nat} (hx : x ≠ a) : fP (setP h f a o) f x = fP h f x := by
  rw [fP_setP, if_neg (fun q => hx q.2)]
theorem fP_set_eq {h : HS} {f a : Nat} {o : Option Nat} : fP (setP h f a o) f a = o := by
  rw [fP_setP, if_pos ⟨rfl, rfl⟩]
theorem OnlyN.set {h : HS} {f a : Nat} {o : Option Nat} (hf : f = 18 ∨ f = 20 ∨ f = 21) : OnlyN h (setP h f a o) := ⟨rfl, rfl, rfl, rfl, rfl, fun f' x y z => fP_set_ne (by rcases hf with rfl | rfl | rfl <;> assumption)⟩
theorem OnlyN.sp {h h' : HS} {A : AD} {M : MS} (a : OnlyN h h') (s : SP h A M) : SP h' A M := by
  obtain ⟨a1, a2, a3, a4, a5, a6⟩ := a
  exact s.cg a1 a3 (by rw [a2]) (by rw [a2]) (by rw [a2]) (by rw [a2]) (by rw [a2]) (by rw [a2]) (by rw [a2]) (by rw [a2]) (by rw [a2]) (a6 11 (by decide) (by decide) (by decide)) (a6 12 (by decide) (by decide) (by decide)) (a6 41 (by decide) (by decide) (by decide))

/-! The chain, further: what is put back, what is taken out -/
theorem LG_nil_end {h : HS} {A : AD} {p : Option Nat} (hh : LG h A p [] none) : p = none := hh
theorem LG_app1 {h h' : HS} {A : AD} {L : List Int} {b x : Int} {p : Option Nat} (hL : LG h A p (L ++ [b]) none) (hc : ∀ e ∈ L, fP h' 18 (ev A e) = fP h 18 (ev A e)) (hb : fP h' 18 (ev A b) = some (ev A x)) (hx : fP h' 18 (ev A x) = none) : LG h' A p ((L ++ [b]) ++ [x]) none :=
  LG_app.mpr ⟨some (ev A x), LG_last hc hb hL, rfl, hx⟩
theorem OnlyN.i {h h' : HS} (a : OnlyN h h') (f x : Nat) : fI h' f x = fI h f x := by rw [a.2.1]
theorem OnlyN.k {h h' : HS} (a : OnlyN h h') (x : Nat) : kD h' x = kD h x := by rw [a.1]
def insAll (M : MS) (tk l : List Int) : List Int := tk.foldl (fun l n => insO M n l) l
theorem insAll_cons (M : MS) (n : Int) (tk l : List Int) : insAll M (n :: tk) l = insAll M tk (insO M n l) := rfl
theorem insAll_mem {M : MS} : ∀ {tk l : List Int} (e : Int), e ∈ insAll M tk l ↔ e ∈ tk ∨ e ∈ l := by
  intro tk
  induction tk with
  | nil => intro l e; simp [insAll]
  | cons n t ih =>
    intro l e
    rw [insAll_cons, ih, insO_mem, List.mem_cons]
    constructor
    · rintro (h | h | h)
      · exact Or.inl (Or.inr h)
      · exact Or.inl (Or.inl h)
      · exact Or.inr h
    · rintro ((h | h) | h)
      · exact Or.inr (Or.inl h)
      · exact Or.inl h
      · exact Or.inr (Or.inr h)
theorem insAll_sort {M : MS} : ∀ {tk l : List Int}, l.Pairwise (ahd M) → tk.Nodup → (∀ e ∈ tk, e ∉ l) → (insAll M tk l).Pairwise (ahd M) := by
  intro tk
  induction tk with
  | nil => intro l h _ _; exact h
  | cons n t ih =>
    intro l h hn hd
    have hn2 := List.nodup_cons.mp hn
    rw [insAll_cons]
    refine ih (insO_sort h (hd n List.mem_cons_self)) hn2.2 (fun e he q => ?_)
    rcases (insO_mem e).mp q with rfl | q
    · exact hn2.1 he
    · exact hd e (List.mem_cons_of_mem _ he) q

/-! The object itself; who is who in the class -/
def VO (h : HS) (A : AD) : Prop := kD h (cO A) = 7 ∧ fP h 60 (cO A) = some (cN A) ∧ fP h 61 (cO A) = some (cM A) ∧ fP h 62 (cO A) = some (cH A) ∧ fP h 63 (cO A) = some (cT A) ∧ fP h 64 (cO A) = some (cW A) ∧ kD h (cN A) = 11 ∧ ln h (cN A) = 20 ∧ (∀ k, 0 ≤ k → k < 20 → aR h (cN A) k = some (nd A k)) ∧ kD h (cM A) = 9 ∧ ln h (cM A) = 1000 ∧ kD h (cH A) = 3 ∧ kD h (cT A) = 6 ∧ kD h (cW A) = 8 ∧ ln h (cW A) = 160
theorem VO.cg {h h' : HS} {A : AD} (v : VO h A) (hk : kD h' = kD h := by rfl) (hl : ln h' = ln h := by rfl) (hr : aR h' = aR h := by rfl) (p60 : fP h' 60 = fP h 60 := by rfl) (p61 : fP h' 61 = fP h 61 := by rfl) (p62 : fP h' 62 = fP h 62 := by rfl) (p63 : fP h' 63 = fP h 63 := by rfl) (p64 : fP h' 64 = fP h 64 := by rfl) : VO h' A := by
  simp only [VO, hk, hl, hr, p60, p61, p62, p63, p64]
  exact v
/-- only lower has changed -/
def OnlyL (h h' : HS) : Prop := kD h' = kD h ∧ fI h' = fI h ∧ ln h' = ln h ∧ aI h' = aI h ∧ aR h' = aR h ∧ ∀ f, f ≠ 42 → fP h' f = fP h f
theorem OnlyL.rf (h : HS) : OnlyL h h := ⟨rfl, rfl, rfl, rfl, rfl, fun _ _ => rfl⟩
theorem OnlyL.tr {h h1 h2 : HS} (a : OnlyL h h1) (b : OnlyL h1 h2) : OnlyL h h2 := ⟨b.1.trans a.1, b.2.1.trans a.2.1, b.2.2.1.trans a.2.2.1, b.2.2.2.1.trans a.2.2.2.1, b.2.2.2.2.1.trans a.2.2.2.2.1, fun f x => (b.2.2.2.2.2 f x).trans (a.2.2.2.2.2 f x)⟩
theorem OnlyL.set {h : HS} {a : Nat} {o : Option Nat} : OnlyL h (setP h 42 a o) := ⟨rfl, rfl, rfl, rfl, rfl, fun f' x => fP_set_ne x⟩
theorem OnlyL.sp {h h' : HS} {A : AD} {M : MS} (a : OnlyL h h') (s : SP h A M) : SP h' A M := by
  obtain ⟨a1, a2, a3, a4, a5, a6⟩ := a
  exact s.cg a1 a3 (by rw [a2]) (by rw [a2]) (by rw [a2]) (by rw [a2]) (by rw [a2]) (by rw [a2]) (by rw [a2]) (by rw [a2]) (by rw [a2]) (a6 11 (by decide)) (a6 12 (by decide)) (a6 41 (by decide))
theorem OnlyL.vo {h h' : HS} {A : AD} (a : OnlyL h h') (v : VO h A) : VO h' A := by
  obtain ⟨a1, a2, a3, a4, a5, a6⟩ := a
  exact v.cg a1 a3 a5 (a6 60 (by decide)) (a6 61 (by decide)) (a6 62 (by decide)) (a6 63 (by decide)) (a6 64 (by decide))
theorem OnlyL.lg {h h' : HS} {A : AD} (a : OnlyL h h') {l : List Int} {p q : Option Nat} (hh : LG h A p l q) : LG h' A p l q := LG_cong (fun e _ => by rw [a.2.2.2.2.2 18 (by decide)]) hh
def jnF (lo hi : Int) (f : Int → Int) : Int → Int := fun k => if f k = hi then lo else f k
def jbF (M : MS) (f : Int → Int) (e : Int) : Int → Int := if lnk0 M e then (if f (10 + M 4 e) < f (M 5 e) then jnF (f (10 + M 4 e)) (f (M 5 e)) f else jnF (f (M 5 e)) (f (10 + M 4 e)) f) else f
theorem jnF_n {lo hi : Int} {f : Int → Int} {k : Int} (h : ¬ f k = hi) : jnF lo hi f k = f k := if_neg h
theorem jnF_lo {lo hi : Int} {f : Int → Int} {k : Int} (h : f k = lo ∨ f k = hi) : jnF lo hi f k = lo := by
  unfold jnF
  split
  · rfl
  · rcases h with h | h
    · exact h
    · contradiction
/-- what is known of the lowest nodes when the links of some events are in -/
def LwI (M : MS) (es : List Int) (f : Int → Int) : Prop := (∀ a, 0 ≤ a → a < 20 → (0 ≤ f a ∧ f a ≤ a) ∧ f (f a) = f a ∧ ∀ g : Int → Int, (∀ e ∈ es, lnk0 M e → g (10 + M 4 e) = g (M 5 e)) → g a = g (f a)) ∧ ∀ e ∈ es, lnk0 M e → f (10 + M 4 e) = f (M 5 e)
theorem LwI.nil (M : MS) : LwI M [] (fun k => k) := ⟨fun a h0 h1 => ⟨⟨h0, Int.le_refl _⟩, rfl, fun _ _ => rfl⟩, fun e he => by cases he⟩
theorem LwI.jn {M : MS} {es : List Int} {f : Int → Int} {x y e lo hi : Int} (h : LwI M es f) (hx : 0 ≤ x ∧ x < 20) (hy : 0 ≤ y ∧ y < 20) (hlh : lo < hi ∨ lo = hi) (hw : (lo = f x ∧ hi = f y) ∨ (lo = f y ∧ hi = f x)) (hex : x = 10 + M 4 e) (hey : y = M 5 e) (hl : lnk0 M e) : LwI M (es ++ [e]) (jnF lo hi f) := by
  obtain ⟨h1, h2⟩ := h
  have fx := h1 x hx.1 hx.2
  have fy := h1 y hy.1 hy.2
  have hlo : f lo = lo := by rcases hw with ⟨q, -⟩ | ⟨q, -⟩ <;> rw [q]; exact fx.2.1; exact fy.2.1
  have hlo0 : 0 ≤ lo := by rcases hw with ⟨q, -⟩ | ⟨q, -⟩ <;> omega
  refine ⟨fun a h0 ha => ?_, fun u hu hlu => ?_⟩
  · obtain ⟨⟨a0, a1⟩, a2, a3⟩ := h1 a h0 ha
    by_cases hc : f a = hi
    · rw [jnF_lo (Or.inr hc), jnF_lo (Or.inl hlo)]
      refine ⟨⟨hlo0, by omega⟩, rfl, fun g hg => ?_⟩
      have g1 := a3 g (fun u hu hlu => hg u (List.mem_append_left _ hu) hlu)
      have gx := fx.2.2 g (fun u hu hlu => hg u (List.mem_append_left _ hu) hlu)
      have gy := fy.2.2 g (fun u hu hlu => hg u (List.mem_append_left _ hu) hlu)
      have ge := hg e (List.mem_append_right _ List.mem_cons_self) hl
      rw [← hex, ← hey] at ge
      rw [g1, hc]
      rcases hw with ⟨q1, q2⟩ | ⟨q1, q2⟩
      · rw [q1, q2, ← gx, ← gy, ge]
      · rw [q1, q2, ← gx, ← gy, ge]
    · rw [jnF_n hc, jnF_n (by rw [a2]; exact hc), a2]
      exact ⟨⟨a0, a1⟩, rfl, fun g hg => a3 g (fun u hu hlu => hg u (List.mem_append_left _ hu) hlu)⟩
  · rcases List.mem_append.mp hu with hu | hu
    · have q := h2 u hu hlu
      unfold jnF
      rw [q]
    · rw [List.mem_singleton.mp hu, ← hex, ← hey]
      rcases hw with ⟨q1, q2⟩ | ⟨q1, q2⟩
      · rw [jnF_lo (Or.inl q1.symm), jnF_lo (Or.inr q2.symm)]
      · rw [jnF_lo (Or.inr q2.symm), jnF_lo (Or.inl q1.symm)]
theorem LwI.jb {M : MS} (hM : MI M) {es : List Int} {f : Int → Int} {e : Int} (h : LwI M es f) (he : 0 ≤ e ∧ e < M 2 0) : LwI M (es ++ [e]) (jbF M f e) := by
  obtain ⟨-, ⟨d0, d1⟩, ⟨a0, a1⟩, -⟩ := hM.ev e he.1 he.2
  simp only [jbF]
  by_cases hl : lnk0 M e
  · rw [if_pos hl]
    have a2 : 0 ≤ M 5 e := by have := hl.1; omega
    by_cases hlt : f (10 + M 4 e) < f (M 5 e)
    · rw [if_pos hlt]
      exact h.jn (x := 10 + M 4 e) (y := M 5 e) (by omega) (by omega) (Or.inl hlt) (Or.inl ⟨rfl, rfl⟩) rfl rfl hl
    · rw [if_neg hlt]
      exact h.jn (x := 10 + M 4 e) (y := M 5 e) (by omega) (by omega) (by omega) (Or.inr ⟨rfl, rfl⟩) rfl rfl hl
  · rw [if_neg hl]
    refine ⟨fun a h0 ha => ⟨(h.1 a h0 ha).1, (h.1 a h0 ha).2.1, fun g hg => (h.1 a h0 ha).2.2 g (fun u hu hlu => hg u (List.mem_append_left _ hu) hlu)⟩, fun u hu hlu => ?_⟩
    rcases List.mem_append.mp hu with hu | hu
    · exact h.2 u hu hlu
    · rw [List.mem_singleton.mp hu] at hlu
      exact absurd hlu hl
theorem LwI.all {M : MS} (hM : MI M) : ∀ (t es : List Int) (f : Int → Int), LwI M es f → (∀ e ∈ t, 0 ≤ e ∧ e < M 2 0) → LwI M (es ++ t) (t.foldl (jbF M) f) := by
  intro t
  induction t with
  | nil => intro es f h _; rw [List.append_nil]; exact h
  | cons e t ih =>
    intro es f h ht
    have := ih (es ++ [e]) (jbF M f e) (h.jb hM (ht e List.mem_cons_self)) (fun x hx => ht x (List.mem_cons_of_mem _ hx))
    rw [List.append_assoc] at this
    exact this
theorem LwI.low {M : MS} {l : List Int} (hO : Ord M l) {f : Int → Int} (h : LwI M l f) : IsLow M f := by
  refine ⟨fun a h0 h1 => ⟨(h.1 a h0 h1).1, fun g hg => ?_⟩, fun x y hxy => ?_⟩
  · refine (h.1 a h0 h1).2.2 g (fun e he hl => hg _ _ ?_)
    have := (hO.2 e).mp he
    exact ⟨e, this.1, ⟨this.2, hl⟩, rfl, rfl⟩
  · obtain ⟨e, he, hl, rfl, rfl⟩ := hxy
    exact h.2 e ((hO.2 e).mpr ⟨he, hl.1⟩) hl.2
theorem IsLow.lwi {M : MS} {l : List Int} (hO : Ord M l) {f : Int → Int} (h : IsLow M f) (hM : MI M) : LwI M l f := by
  have hin : ∀ e, (0 ≤ e ∧ e < M 2 0) → lnk0 M e → M 9 e = 0 → f (10 + M 4 e) = f (M 5 e) := fun e he hl h9 => h.2 _ _ ⟨e, he, ⟨h9, hl⟩, rfl, rfl⟩
  refine ⟨fun a h0 h1 => ?_, fun e he hl => hin e ((hO.2 e).mp he).1 hl ((hO.2 e).mp he).2⟩
  obtain ⟨a1, a2⟩ := h.1 a h0 h1
  refine ⟨a1, (a2 f h.2).symm, fun g hg => a2 g (fun x y hxy => ?_)⟩
  obtain ⟨e, he, hl, rfl, rfl⟩ := hxy
  exact hg e ((hO.2 e).mpr ⟨he, hl.1⟩) hl.2

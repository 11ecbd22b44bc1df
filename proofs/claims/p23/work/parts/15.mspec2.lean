/-! What the reference's loops compute -/
theorem bi_ne0 {p : Prop} [Decidable p] : ¬ bi p = 0 ↔ p := by
  unfold bi; split <;> simp [*]
theorem lkv {z z' : Int} (h : z = z') : some (vi z) = some (vi z') := by rw [h]
def bhdF (M : MS) (node its : Int) : Nat → Int
  | 0 => -1
  | i + 1 => if (blg M i node ∧ (its = -1 ∨ ahd M its i)) ∧ (bhdF M node its i = -1 ∨ ahd M i (bhdF M node its i)) then i else bhdF M node its i
theorem bhdF_in (M : MS) (node its : Int) : ∀ i : Nat, -1 ≤ bhdF M node its i ∧ bhdF M node its i < i := by
  intro i
  induction i with
  | zero => simp [bhdF]
  | succ i ih => simp only [bhdF]; split <;> omega
def timeF (M : MS) (its : Int) : Nat → Int
  | 0 => -1
  | i + 1 => if M 3 i = its ∧ M 9 i = 0 then tmOf M i else timeF M its i
def evF (M : MS) (node what : Int) : Nat → Int
  | 0 => 0
  | i + 1 => evF M node what i + (if blg M i node ∧ (what = -1 ∨ M 6 i = what) then 1 else 0)
theorem evF_in (M : MS) (node what : Int) : ∀ i : Nat, 0 ≤ evF M node what i ∧ evF M node what i ≤ i := by
  intro i
  induction i with
  | zero => simp [evF]
  | succ i ih => simp only [evF]; split <;> omega
def rowOf (M : MS) (e p : Int) : Int := 4 * (if M 5 e = -1 then 10 + M 4 e else M 5 e) + p
theorem rowOf_in {M : MS} (h : MI M) {e p : Int} (h0 : 0 ≤ e) (h1 : e < M 2 0) (hp : 0 ≤ p ∧ p ≤ 3) : 0 ≤ rowOf M e p ∧ rowOf M e p < 80 := by
  obtain ⟨-, ⟨d0, d1⟩, ⟨a0, a1⟩, -⟩ := h.ev e h0 h1
  unfold rowOf
  split <;> omega
def chB (M : MS) (row t : Int) : Nat → Int
  | 0 => -1
  | i + 1 => if M 15 (20 * row + i) ≤ t ∧ chB M row t i ≤ M 15 (20 * row + i) then M 15 (20 * row + i) else chB M row t i
def chG (M : MS) (row t : Int) : Nat → Int
  | 0 => 0
  | i + 1 => if M 15 (20 * row + i) ≤ t ∧ chB M row t i ≤ M 15 (20 * row + i) then M 16 (20 * row + i) else chG M row t i
theorem chB_in {M : MS} (h : MI M) (row t : Int) (h0 : 0 ≤ row) (h1 : row < 80) : ∀ i : Nat, (i : Int) ≤ M 14 row → -1 ≤ chB M row t i ∧ chB M row t i ≤ 100000 := by
  intro i
  induction i with
  | zero => intro _; simp [chB]
  | succ i ih =>
    intro hi
    have := ih (by omega)
    have := h.cf row i h0 h1 (by omega) (by omega)
    simp only [chB]
    split <;> omega
theorem chG_in {M : MS} (h : MI M) (row t : Int) : ∀ i : Nat, chG M row t i = 0 ∨ chG M row t i = 1 := by
  intro i
  induction i with
  | zero => exact Or.inl rfl
  | succ i ih =>
    simp only [chG]
    split
    · exact h.b16 _
    · exact ih
/-- whether e counts for the purpose -/
abbrev cnt (M : MS) (e p : Int) : Prop := chG M (rowOf M e p) (tmOf M e) (M 14 (rowOf M e p)).toNat = 1
abbrev inS (M : MS) (node p what minute days e : Int) : Prop := blg M e node ∧ M 6 e = what ∧ tmOf M e ≤ minute ∧ minute - 1440 * days < tmOf M e ∧ cnt M e p
def sumF (M : MS) (node p what minute days : Int) : Nat → Int
  | 0 => 0
  | i + 1 => sumF M node p what minute days i + (if inS M node p what minute days i then 1 else 0)
theorem sumF_in (M : MS) (node p what minute days : Int) : ∀ i : Nat, 0 ≤ sumF M node p what minute days i ∧ sumF M node p what minute days i ≤ i := by
  intro i
  induction i with
  | zero => simp [sumF]
  | succ i ih => simp only [sumF]; split <;> omega
-- who is who
def edge (M : MS) (x y : Int) : Prop := ∃ e, (0 ≤ e ∧ e < M 2 0) ∧ lnk M e ∧ x = 10 + M 4 e ∧ y = M 5 e
def Conn (M : MS) (a c : Int) : Prop := ∀ g : Int → Int, (∀ x y, edge M x y → g x = g y) → g a = g c
theorem Conn.rf (M : MS) (a : Int) : Conn M a a := fun _ _ => rfl
theorem Conn.tr {M : MS} {a c d : Int} (h : Conn M a c) (h' : Conn M c d) : Conn M a d := fun g hg => (h g hg).trans (h' g hg)
theorem Conn.sy {M : MS} {a c : Int} (h : Conn M a c) : Conn M c a := fun g hg => (h g hg).symm
theorem Conn.ed {M : MS} {a c : Int} (h : edge M a c) : Conn M a c := fun g hg => hg a c h
def IsLow (M : MS) (f : Int → Int) : Prop := (∀ a, 0 ≤ a → a < 20 → (0 ≤ f a ∧ f a ≤ a) ∧ Conn M a (f a)) ∧ ∀ x y, edge M x y → f x = f y
theorem IsLow.uniq {M : MS} {f g : Int → Int} (hf : IsLow M f) (hg : IsLow M g) (a : Int) (h0 : 0 ≤ a) (h1 : a < 20) : f a = g a := by
  obtain ⟨⟨f0, f1⟩, fc⟩ := hf.1 a h0 h1
  obtain ⟨⟨g0, g1⟩, gc⟩ := hg.1 a h0 h1
  have e1 : g a = g (f a) := fc g hg.2
  have e2 : f a = f (g a) := gc f hf.2
  have e3 := (hg.1 (f a) f0 (by omega)).1
  have e4 := (hf.1 (g a) g0 (by omega)).1
  omega
theorem edge_same {M M' : MS} (h : ∀ k, k ≠ 27 → M' k = M k) (x y : Int) : edge M' x y ↔ edge M x y := by
  unfold edge lnk
  rw [h 2 (by decide), h 9 (by decide), h 5 (by decide), h 12 (by decide), h 13 (by decide), h 4 (by decide)]
theorem conn_same {M M' : MS} (h : ∀ k, k ≠ 27 → M' k = M k) (a c : Int) : Conn M' a c ↔ Conn M a c := by
  unfold Conn
  constructor
  · intro H g hg
    exact H g (fun x y he => hg x y ((edge_same h x y).mp he))
  · intro H g hg
    exact H g (fun x y he => hg x y ((edge_same h x y).mpr he))
theorem MI.same {M M' : MS} (hM : MI M) (h : ∀ k, k ≠ 27 → M' k = M k) (hl : ∀ k, 0 ≤ k → k < 20 → 0 ≤ M' 27 k ∧ M' 27 k ≤ 19) : MI M' := by
  unfold MI MEv MGr
  rw [h 2 (by decide), h 1 (by decide), h 3 (by decide), h 4 (by decide), h 5 (by decide), h 6 (by decide), h 7 (by decide), h 8 (by decide), h 11 (by decide), h 14 (by decide), h 15 (by decide), h 17 (by decide), h 18 (by decide), h 19 (by decide), h 20 (by decide), h 21 (by decide), h 24 (by decide)]
  refine ⟨hM.n, hM.now, hM.ev, hM.sk, hM.ch, hM.cf, hM.gn, hM.gr, hM.told, hl, fun k j hk => ?_⟩
  rw [h k (by rcases hk with rfl | rfl | rfl | rfl | rfl | rfl | rfl <;> decide)]
  exact hM.b k j hk
/-- after finds -/
def Fnd (M M' : MS) : Prop := (∀ k, k ≠ 27 → M' k = M k) ∧ IsLow M (M' 27)
theorem Fnd.MI {M M' : MS} (hM : MI M) (h : Fnd M M') : MI M' := hM.same h.1 (fun k h0 h1 => by
  have := (h.2.1 k h0 h1).1
  omega)
def sum20 (f : Int → Int) : Nat → Int
  | 0 => 0
  | i + 1 => sum20 f i + f i
theorem sum20_le {f g : Int → Int} : ∀ n : Nat, (∀ i : Nat, i < n → f i ≤ g i) → sum20 f n ≤ sum20 g n := by
  intro n
  induction n with
  | zero => intro _; exact Int.le_refl _
  | succ n ih =>
    intro h
    have h1 := ih (fun i hi => h i (by omega))
    have h2 := h n (by omega)
    simp only [sum20]
    omega
theorem sum20_lt {f g : Int → Int} : ∀ n : Nat, (∀ i : Nat, i < n → f i ≤ g i) → (∃ i : Nat, i < n ∧ f i < g i) → sum20 f n < sum20 g n := by
  intro n
  induction n with
  | zero => rintro _ ⟨i, hi, -⟩; omega
  | succ n ih =>
    rintro h ⟨i, hi, hl⟩
    have h2 := h n (by omega)
    simp only [sum20]
    by_cases e : i = n
    · subst e
      have h1 := sum20_le (f := f) (g := g) i (fun j hj => h j (by omega))
      omega
    · have h1 := ih (fun j hj => h j (by omega)) ⟨i, by omega, hl⟩
      omega
theorem sum20_nn {f : Int → Int} : ∀ n : Nat, (∀ i : Nat, i < n → 0 ≤ f i) → 0 ≤ sum20 f n := by
  intro n
  induction n with
  | zero => intro _; exact Int.le_refl _
  | succ n ih =>
    intro h
    have h1 := ih (fun i hi => h i (by omega))
    have h2 := h n (by omega)
    simp only [sum20]
    omega
theorem bi_rng (p : Prop) [Decidable p] : -2147483648 ≤ bi p ∧ bi p ≤ 2147483647 := by
  rcases bi_01 p with h | h <;> omega
theorem X.to {φ : Fx} {I : va_W → Prop} {k n pc : Nat} {L L' : List (Nat × Value)} {st : List Value} (kk : X φ I k n pc L' st) (hs : lsub L L') : X φ I k n pc L st := kk.loc hs
theorem lsn {L : List (Nat × Value)} : lsub L [] := trivial
theorem lsc {L t : List (Nat × Value)} {i : Nat} {v : Value} (h : lk L i = some v) (ht : lsub L t) : lsub L ((i, v) :: t) := ⟨h, ht⟩

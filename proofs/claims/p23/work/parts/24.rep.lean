/-! What the class's objects hold, in the words of the reference's memory -/
abbrev AD : Type := Nat × Nat × Nat × Nat × Nat × Nat × (Int → Nat) × (Int → Nat) × (Int → Nat) × (Int → Nat)
def cO (A : AD) : Nat := A.1
def cN (A : AD) : Nat := A.2.1
def cM (A : AD) : Nat := A.2.2.1
def cH (A : AD) : Nat := A.2.2.2.1
def cT (A : AD) : Nat := A.2.2.2.2.1
def cW (A : AD) : Nat := A.2.2.2.2.2.1
def nd (A : AD) (k : Int) : Nat := A.2.2.2.2.2.2.1 k
def lc (A : AD) (k : Int) : Nat := A.2.2.2.2.2.2.2.1 k
def ev (A : AD) (e : Int) : Nat := A.2.2.2.2.2.2.2.2.1 e
def gp (A : AD) (g : Int) : Nat := A.2.2.2.2.2.2.2.2.2 g
def NdOK (h : HS) (A : AD) (k : Int) : Prop := kD h (nd A k) = 5 ∧ fI h 40 (nd A k) = k ∧ fP h 41 (nd A k) = some (lc A k) ∧ kD h (lc A k) = 10 ∧ ln h (lc A k) = 4
/-- the bits of a mask -/
def BW (z : Int) (P : Int → Prop) : Prop := (-2147483648 ≤ z ∧ z ≤ 2147483647) ∧ ∀ j : Nat, j < 32 → ((Int32.ofInt z).toBitVec.getLsbD j = true ↔ P j)
def DvOK (h : HS) (A : AD) (M : MS) (d : Int) : Prop := fI h 44 (nd A (10 + d)) = M 12 d ∧ fI h 45 (nd A (10 + d)) = M 11 d ∧ BW (fI h 43 (nd A (10 + d))) (fun j => 0 ≤ j ∧ j < 10 ∧ M 13 (10 * d + j) = 1)
def EvOK (h : HS) (A : AD) (M : MS) (e : Int) : Prop := kD h (ev A e) = 2 ∧ fI h 10 (ev A e) = M 3 e ∧ fP h 11 (ev A e) = some (nd A (10 + M 4 e)) ∧ fP h 12 (ev A e) = (if M 5 e = -1 then none else some (nd A (M 5 e))) ∧ fI h 13 (ev A e) = M 6 e ∧ fI h 14 (ev A e) = M 7 e ∧ fI h 15 (ev A e) = M 8 e ∧ fI h 16 (ev A e) = e
def SP (h : HS) (A : AD) (M : MS) : Prop := MI M ∧ (∀ k, 0 ≤ k → k < 20 → NdOK h A k) ∧ (∀ d, 0 ≤ d → d < 10 → DvOK h A M d) ∧ ∀ e, 0 ≤ e → e < M 2 0 → EvOK h A M e
def LW (h : HS) (A : AD) (f : Int → Int) : Prop := ∀ k, 0 ≤ k → k < 20 → fP h 42 (nd A k) = (if f k = k then none else some (nd A (f k))) ∧ (0 ≤ f k ∧ f k < 20)
theorem SP.mi {h : HS} {A : AD} {M : MS} (s : SP h A M) : MI M := s.1
theorem SP.no {h : HS} {A : AD} {M : MS} (s : SP h A M) (k : Int) (h0 : 0 ≤ k) (h1 : k < 20) : NdOK h A k := s.2.1 k h0 h1
theorem SP.dv {h : HS} {A : AD} {M : MS} (s : SP h A M) (d : Int) (h0 : 0 ≤ d) (h1 : d < 10) : DvOK h A M d := s.2.2.1 d h0 h1
theorem SP.ve {h : HS} {A : AD} {M : MS} (s : SP h A M) (e : Int) (h0 : 0 ≤ e) (h1 : e < M 2 0) : EvOK h A M e := s.2.2.2 e h0 h1
theorem nd_inj {h : HS} {A : AD} {M : MS} (s : SP h A M) {k j : Int} (h0 : 0 ≤ k) (h1 : k < 20) (h2 : 0 ≤ j) (h3 : j < 20) : nd A k = nd A j ↔ k = j := by
  constructor
  · intro e
    have e1 := (s.no k h0 h1).2.1
    have e2 := (s.no j h2 h3).2.1
    rw [e] at e1
    omega
  · intro e; rw [e]
theorem ev_inj {h : HS} {A : AD} {M : MS} (s : SP h A M) {k j : Int} (h0 : 0 ≤ k) (h1 : k < M 2 0) (h2 : 0 ≤ j) (h3 : j < M 2 0) : ev A k = ev A j ↔ k = j := by
  constructor
  · intro e
    have e1 := (s.ve k h0 h1).2.2.2.2.2.2.2
    have e2 := (s.ve j h2 h3).2.2.2.2.2.2.2
    rw [e] at e1
    omega
  · intro e; rw [e]
-- bits
abbrev lnk0 (M : MS) (e : Int) : Prop := ¬ M 5 e = -1 ∧ M 12 (M 4 e) = 0 ∧ M 13 (10 * M 4 e + M 5 e) = 0
-- consent changes
def CLs (h : HS) (ow : Nat → Int) (r : Int) : Option Nat → List (Int × Int) → Prop
  | o, [] => o = none
  | o, v :: t => ∃ a, o = some a ∧ kD h a = 1 ∧ fI h 0 a = v.1 ∧ fI h 1 a = v.2 ∧ ow a = r ∧ CLs h ow r (fP h 2 a) t
def insC (x : Int × Int) : List (Int × Int) → List (Int × Int)
  | [] => [x]
  | y :: t => if x.1 < y.1 then y :: insC x t else x :: y :: t
def slC (M : MS) (row : Int) : Nat → List (Int × Int)
  | 0 => []
  | i + 1 => insC (M 15 (20 * row + i), M 16 (20 * row + i)) (slC M row i)
def hcF (t : Int) : List (Int × Int) → Int
  | [] => 0
  | y :: l => if y.1 ≤ t then y.2 else hcF t l
def hcB (t : Int) : List (Int × Int) → Int
  | [] => -1
  | y :: l => if y.1 ≤ t then y.1 else hcB t l
def SortC (l : List (Int × Int)) : Prop := l.Pairwise (fun a b => b.1 ≤ a.1)
theorem insC_mem (x : Int × Int) : ∀ (l : List (Int × Int)) (y : Int × Int), y ∈ insC x l ↔ y = x ∨ y ∈ l := by
  intro l
  induction l with
  | nil => intro y; simp [insC]
  | cons z t ih =>
    intro y
    simp only [insC]
    split
    · simp only [List.mem_cons, ih]
      constructor
      · rintro (h | h | h)
        · exact Or.inr (Or.inl h)
        · exact Or.inl h
        · exact Or.inr (Or.inr h)
      · rintro (h | h | h)
        · exact Or.inr (Or.inl h)
        · exact Or.inl h
        · exact Or.inr (Or.inr h)
    · simp only [List.mem_cons]
theorem insC_sort (x : Int × Int) : ∀ l : List (Int × Int), SortC l → SortC (insC x l) := by
  intro l
  induction l with
  | nil => intro _; simp [insC, SortC]
  | cons z t ih =>
    intro h
    have h2 := List.pairwise_cons.mp h
    simp only [insC]
    split
    · rename_i hlt
      refine List.pairwise_cons.mpr ⟨fun y hy => ?_, ih h2.2⟩
      rcases (insC_mem x t y).mp hy with rfl | hy
      · omega
      · exact h2.1 y hy
    · rename_i hge
      refine List.pairwise_cons.mpr ⟨fun y hy => ?_, h⟩
      rcases List.mem_cons.mp hy with rfl | hy
      · omega
      · have := h2.1 y hy
        omega
theorem insC_len (x : Int × Int) : ∀ l : List (Int × Int), (insC x l).length = l.length + 1 := by
  intro l
  induction l with
  | nil => rfl
  | cons z t ih =>
    simp only [insC]
    split
    · simp only [List.length_cons, ih]
    · simp only [List.length_cons]
theorem slC_len (M : MS) (row : Int) : ∀ i : Nat, (slC M row i).length = i := by
  intro i
  induction i with
  | zero => rfl
  | succ i ih => simp only [slC, insC_len, ih]
theorem slC_sort (M : MS) (row : Int) : ∀ i : Nat, SortC (slC M row i) := by
  intro i
  induction i with
  | zero => exact List.Pairwise.nil
  | succ i ih => exact insC_sort _ _ ih
theorem hcB_le (t : Int) : ∀ l : List (Int × Int), (∀ y ∈ l, 0 ≤ y.1) → (hcB t l = -1 ∧ ∀ y ∈ l, t < y.1) ∨ (0 ≤ hcB t l ∧ hcB t l ≤ t ∧ ∃ y ∈ l, y.1 = hcB t l) := by
  intro l
  induction l with
  | nil => intro _; exact Or.inl ⟨rfl, fun y hy => by cases hy⟩
  | cons z l ih =>
    intro hp
    have hz := hp z List.mem_cons_self
    simp only [hcB]
    split
    · exact Or.inr ⟨hz, by omega, z, List.mem_cons_self, rfl⟩
    · rcases ih (fun y hy => hp y (List.mem_cons_of_mem _ hy)) with ⟨h1, h2⟩ | ⟨h1, h2, y, h3, h4⟩
      · refine Or.inl ⟨h1, fun y hy => ?_⟩
        rcases List.mem_cons.mp hy with rfl | hy
        · omega
        · exact h2 y hy
      · exact Or.inr ⟨h1, h2, y, List.mem_cons_of_mem _ h3, h4⟩
theorem hcF_p {t : Int} {y : Int × Int} (l : List (Int × Int)) (h : y.1 ≤ t) : hcF t (y :: l) = y.2 := if_pos h
theorem hcF_n {t : Int} {y : Int × Int} (l : List (Int × Int)) (h : ¬ y.1 ≤ t) : hcF t (y :: l) = hcF t l := if_neg h
theorem hcB_p {t : Int} {y : Int × Int} (l : List (Int × Int)) (h : y.1 ≤ t) : hcB t (y :: l) = y.1 := if_pos h
theorem hcB_n {t : Int} {y : Int × Int} (l : List (Int × Int)) (h : ¬ y.1 ≤ t) : hcB t (y :: l) = hcB t l := if_neg h
theorem insC_lt {x z : Int × Int} (l : List (Int × Int)) (h : x.1 < z.1) : insC x (z :: l) = z :: insC x l := if_pos h
theorem insC_ge {x z : Int × Int} (l : List (Int × Int)) (h : ¬ x.1 < z.1) : insC x (z :: l) = x :: z :: l := if_neg h
theorem hc_ins (t : Int) (x : Int × Int) (hx : 0 ≤ x.1) : ∀ l : List (Int × Int), SortC l → (∀ y ∈ l, 0 ≤ y.1) → hcF t (insC x l) = (if x.1 ≤ t ∧ hcB t l ≤ x.1 then x.2 else hcF t l) ∧ hcB t (insC x l) = (if x.1 ≤ t ∧ hcB t l ≤ x.1 then x.1 else hcB t l) := by
  intro l
  induction l with
  | nil =>
    intro _ _
    have e1 : hcB t [] = -1 := rfl
    rw [e1]
    by_cases h : x.1 ≤ t
    · rw [if_pos ⟨h, by omega⟩, if_pos ⟨h, by omega⟩]
      exact ⟨hcF_p [] h, hcB_p [] h⟩
    · rw [if_neg (fun q => h q.1), if_neg (fun q => h q.1)]
      exact ⟨hcF_n [] h, hcB_n [] h⟩
  | cons z l ih =>
    intro hs hp
    have h2 := List.pairwise_cons.mp hs
    obtain ⟨ih1, ih2⟩ := ih h2.2 (fun y hy => hp y (List.mem_cons_of_mem _ hy))
    by_cases hlt : x.1 < z.1
    · rw [insC_lt l hlt]
      by_cases hz : z.1 ≤ t
      · rw [hcF_p (insC x l) hz, hcB_p (insC x l) hz, hcB_p l hz, hcF_p l hz, if_neg (by omega), if_neg (by omega)]
        exact ⟨rfl, rfl⟩
      · rw [hcF_n (insC x l) hz, hcB_n (insC x l) hz, hcB_n l hz, hcF_n l hz]
        exact ⟨ih1, ih2⟩
    · rw [insC_ge l hlt]
      by_cases hx2 : x.1 ≤ t
      · have hzt : z.1 ≤ t := by omega
        rw [hcF_p (z :: l) hx2, hcB_p (z :: l) hx2, hcB_p l hzt, if_pos ⟨hx2, by omega⟩, if_pos ⟨hx2, by omega⟩]
        exact ⟨rfl, rfl⟩
      · rw [hcF_n (z :: l) hx2, hcB_n (z :: l) hx2, if_neg (fun q => hx2 q.1), if_neg (fun q => hx2 q.1)]
        exact ⟨rfl, rfl⟩
theorem slC_nn {M : MS} (hM : MI M) (row : Int) (h0 : 0 ≤ row) (h1 : row < 80) : ∀ i : Nat, (i : Int) ≤ M 14 row → ∀ y ∈ slC M row i, (0 ≤ y.1 ∧ y.1 ≤ 100000) ∧ (y.2 = 0 ∨ y.2 = 1) := by
  intro i
  induction i with
  | zero => intro _ y hy; cases hy
  | succ i ih =>
    intro hi y hy
    rcases (insC_mem _ _ y).mp hy with rfl | hy
    · exact ⟨hM.cf row i h0 h1 (by omega) (by omega), hM.b16 _⟩
    · exact ih (by omega) y hy
theorem ch_hc {M : MS} (hM : MI M) (row t : Int) (h0 : 0 ≤ row) (h1 : row < 80) : ∀ i : Nat, (i : Int) ≤ M 14 row → chG M row t i = hcF t (slC M row i) ∧ chB M row t i = hcB t (slC M row i) := by
  intro i
  induction i with
  | zero => intro _; exact ⟨rfl, rfl⟩
  | succ i ih =>
    intro hi
    obtain ⟨g1, g2⟩ := ih (by omega)
    have hx := hM.cf row i h0 h1 (by omega) (by omega)
    obtain ⟨k1, k2⟩ := hc_ins t (M 15 (20 * row + i), M 16 (20 * row + i)) hx.1 (slC M row i) (slC_sort M row i) (fun y hy => (slC_nn hM row h0 h1 i (by omega) y hy).1.1)
    have e1 : chG M row t (i + 1) = if M 15 (20 * row + i) ≤ t ∧ chB M row t i ≤ M 15 (20 * row + i) then M 16 (20 * row + i) else chG M row t i := rfl
    have e2 : chB M row t (i + 1) = if M 15 (20 * row + i) ≤ t ∧ chB M row t i ≤ M 15 (20 * row + i) then M 15 (20 * row + i) else chB M row t i := rfl
    rw [g1, g2] at e1
    rw [g2] at e2
    exact ⟨e1.trans k1.symm, e2.trans k2.symm⟩

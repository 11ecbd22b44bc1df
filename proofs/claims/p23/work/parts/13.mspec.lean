/-! The reference's state: ranges, and what its small methods answer -/
def MEv (M : MS) (e : Int) : Prop := (0 ≤ M 3 e ∧ M 3 e ≤ 999) ∧ (0 ≤ M 4 e ∧ M 4 e ≤ 9) ∧ (-1 ≤ M 5 e ∧ M 5 e ≤ 9) ∧ (0 ≤ M 6 e ∧ M 6 e ≤ 4) ∧ (-1 ≤ M 7 e ∧ M 7 e ≤ 9) ∧ (0 ≤ M 8 e ∧ M 8 e ≤ 100000)
def MGr (M : MS) (g : Int) : Prop := (0 ≤ M 18 g ∧ M 18 g ≤ 3) ∧ (0 ≤ M 19 g ∧ M 19 g ≤ 4) ∧ (1 ≤ M 20 g ∧ M 20 g ≤ 20) ∧ (1 ≤ M 21 g ∧ M 21 g ≤ 30)
def MI (M : MS) : Prop := (0 ≤ M 2 0 ∧ M 2 0 ≤ 200) ∧ (1440 ≤ M 1 0 ∧ M 1 0 ≤ 100000) ∧ (∀ e, 0 ≤ e → e < M 2 0 → MEv M e) ∧ (∀ d, 0 ≤ d → d ≤ 9 → -600 ≤ M 11 d ∧ M 11 d ≤ 600) ∧ (∀ r, 0 ≤ r → r < 80 → 0 ≤ M 14 r ∧ M 14 r ≤ 20) ∧ (∀ r k, 0 ≤ r → r < 80 → 0 ≤ k → k < M 14 r → 0 ≤ M 15 (20 * r + k) ∧ M 15 (20 * r + k) ≤ 100000) ∧ (0 ≤ M 17 0 ∧ M 17 0 ≤ 8) ∧ (∀ g, 0 ≤ g → g < M 17 0 → MGr M g) ∧ (0 ≤ M 24 0 ∧ M 24 0 ≤ 160) ∧ (∀ k, 0 ≤ k → k < 20 → 0 ≤ M 27 k ∧ M 27 k ≤ 19) ∧ (∀ k j, k = 9 ∨ k = 10 ∨ k = 12 ∨ k = 13 ∨ k = 16 ∨ k = 22 ∨ k = 23 → M k j = 0 ∨ M k j = 1)
theorem MI.n {M : MS} (h : MI M) : 0 ≤ M 2 0 ∧ M 2 0 ≤ 200 := h.1
theorem MI.now {M : MS} (h : MI M) : 1440 ≤ M 1 0 ∧ M 1 0 ≤ 100000 := h.2.1
theorem MI.ev {M : MS} (h : MI M) (e : Int) (h0 : 0 ≤ e) (h1 : e < M 2 0) : MEv M e := h.2.2.1 e h0 h1
theorem MI.sk {M : MS} (h : MI M) (d : Int) (h0 : 0 ≤ d) (h1 : d ≤ 9) : -600 ≤ M 11 d ∧ M 11 d ≤ 600 := h.2.2.2.1 d h0 h1
theorem MI.ch {M : MS} (h : MI M) (r : Int) (h0 : 0 ≤ r) (h1 : r < 80) : 0 ≤ M 14 r ∧ M 14 r ≤ 20 := h.2.2.2.2.1 r h0 h1
theorem MI.cf {M : MS} (h : MI M) (r k : Int) (h0 : 0 ≤ r) (h1 : r < 80) (h2 : 0 ≤ k) (h3 : k < M 14 r) : 0 ≤ M 15 (20 * r + k) ∧ M 15 (20 * r + k) ≤ 100000 := h.2.2.2.2.2.1 r k h0 h1 h2 h3
theorem MI.gn {M : MS} (h : MI M) : 0 ≤ M 17 0 ∧ M 17 0 ≤ 8 := h.2.2.2.2.2.2.1
theorem MI.gr {M : MS} (h : MI M) (g : Int) (h0 : 0 ≤ g) (h1 : g < M 17 0) : MGr M g := h.2.2.2.2.2.2.2.1 g h0 h1
theorem MI.told {M : MS} (h : MI M) : 0 ≤ M 24 0 ∧ M 24 0 ≤ 160 := h.2.2.2.2.2.2.2.2.1
theorem MI.low {M : MS} (h : MI M) (k : Int) (h0 : 0 ≤ k) (h1 : k < 20) : 0 ≤ M 27 k ∧ M 27 k ≤ 19 := h.2.2.2.2.2.2.2.2.2.1 k h0 h1
theorem MI.b {M : MS} (h : MI M) (k : Nat) (j : Int) (hk : k = 9 ∨ k = 10 ∨ k = 12 ∨ k = 13 ∨ k = 16 ∨ k = 22 ∨ k = 23) : M k j = 0 ∨ M k j = 1 := h.2.2.2.2.2.2.2.2.2.2 k j hk
theorem MI.b9 {M : MS} (h : MI M) (j : Int) : M 9 j = 0 ∨ M 9 j = 1 := h.b 9 j (by decide)
theorem MI.b10 {M : MS} (h : MI M) (j : Int) : M 10 j = 0 ∨ M 10 j = 1 := h.b 10 j (by decide)
theorem MI.b12 {M : MS} (h : MI M) (j : Int) : M 12 j = 0 ∨ M 12 j = 1 := h.b 12 j (by decide)
theorem MI.b13 {M : MS} (h : MI M) (j : Int) : M 13 j = 0 ∨ M 13 j = 1 := h.b 13 j (by decide)
theorem MI.b16 {M : MS} (h : MI M) (j : Int) : M 16 j = 0 ∨ M 16 j = 1 := h.b 16 j (by decide)
theorem MI.b22 {M : MS} (h : MI M) (j : Int) : M 22 j = 0 ∨ M 22 j = 1 := h.b 22 j (by decide)
theorem MI.b23 {M : MS} (h : MI M) (j : Int) : M 23 j = 0 ∨ M 23 j = 1 := h.b 23 j (by decide)
def tmOf (M : MS) (e : Int) : Int := if M 8 e - M 11 (M 4 e) < 0 then 0 else M 8 e - M 11 (M 4 e)
abbrev lnk (M : MS) (e : Int) : Prop := M 9 e = 0 ∧ ¬ M 5 e = -1 ∧ M 12 (M 4 e) = 0 ∧ M 13 (10 * M 4 e + M 5 e) = 0
def ndOf (M : MS) (e : Int) : Int := if ¬ M 12 (M 4 e) = 0 ∧ ¬ M 5 e = -1 then M 5 e else 10 + M 4 e
abbrev blg (M : MS) (e node : Int) : Prop := M 9 e = 0 ∧ M 27 (ndOf M e) = M 27 node
abbrev ahd (M : MS) (e o : Int) : Prop := tmOf M e < tmOf M o ∨ tmOf M e = tmOf M o ∧ e < o
abbrev cts (M : MS) (a e of : Int) : Prop := 30 < tmOf M e - tmOf M a ∨ ¬ (tmOf M e).tdiv 1440 = (tmOf M a).tdiv 1440 ∨ (¬ of = -1 ∧ ¬ M 7 e = -1 ∧ ¬ M 7 e = of)
theorem tmOf_in {M : MS} (h : MI M) {e : Int} (h0 : 0 ≤ e) (h1 : e < M 2 0) : 0 ≤ tmOf M e ∧ tmOf M e ≤ 100600 := by
  obtain ⟨-, ⟨d0, d1⟩, -, -, -, ⟨c0, c1⟩⟩ := h.ev e h0 h1
  have := h.sk _ d0 d1
  unfold tmOf
  split <;> omega
theorem ndOf_in {M : MS} (h : MI M) {e : Int} (h0 : 0 ≤ e) (h1 : e < M 2 0) : 0 ≤ ndOf M e ∧ ndOf M e < 20 := by
  obtain ⟨-, ⟨d0, d1⟩, ⟨a0, a1⟩, -, -, ⟨c0, c1⟩⟩ := h.ev e h0 h1
  unfold ndOf
  split <;> omega
theorem tdiv_in {a : Int} (h0 : 0 ≤ a) (h1 : a ≤ 2000000) : 0 ≤ a.tdiv 1440 ∧ a.tdiv 1440 ≤ 2000000 := by
  rw [Int.tdiv_eq_ediv_of_nonneg h0]
  omega

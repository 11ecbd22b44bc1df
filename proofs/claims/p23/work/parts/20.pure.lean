theorem tm_same {M M' : MS} (h : ∀ k, k ≠ 27 → M' k = M k) (e : Int) : tmOf M' e = tmOf M e := by
  unfold tmOf
  rw [h 8 (by decide), h 11 (by decide), h 4 (by decide)]
theorem nd_same {M M' : MS} (h : ∀ k, k ≠ 27 → M' k = M k) (e : Int) : ndOf M' e = ndOf M e := by
  unfold ndOf
  rw [h 12 (by decide), h 5 (by decide), h 4 (by decide)]
theorem Ord.same {M M' : MS} {l : List Int} (hl : Ord M l) (h : ∀ k, k ≠ 27 → M' k = M k) : Ord M' l := by
  refine ⟨hl.1.imp (fun {a b} hab => ?_), fun e => ?_⟩
  · simp only [ahd, tm_same h] at *
    exact hab
  · rw [h 2 (by decide), h 9 (by decide)]
    exact hl.2 e
def grF (M : MS) (node : Int) : Nat → Int
  | 0 => 0
  | g + 1 => bOp (· ||| ·) (grF M node g) (if M 20 g ≤ sumF M node (M 18 g) (M 19 g) (M 1 0) (M 21 g) (M 2 0).toNat then bOp (fun x y => x <<< (y &&& 31)) 1 g else 0)

abbrev MS : Type := Nat → Int → Int
def mset (M : MS) (k : Nat) (j z : Int) : MS := fun k' j' => if k' = k ∧ j' = j then z else M k' j'
theorem mset_eq (M : MS) (k : Nat) (j z : Int) : mset M k j z k j = z := by simp [mset]
theorem mset_ne {k k' : Nat} (h : k' ≠ k) (M : MS) (j z j' : Int) : mset M k j z k' j' = M k' j' := by simp [mset, h]
theorem mset_ne2 {j j' : Int} (h : j' ≠ j) (M : MS) (k k' : Nat) (z : Int) : mset M k j z k' j' = M k' j' := by simp [mset, h]
theorem mset_at (M : MS) (k : Nat) (j z j' : Int) : mset M k j z k j' = if j' = j then z else M k j' := by simp [mset]
theorem mset_row_eq (M : MS) (k : Nat) {j : Int} (hj : 0 ≤ j) (z : Int) : upd (fun i : Nat => Int32.ofInt (M k i)) j.toNat (Int32.ofInt z) = fun i : Nat => Int32.ofInt (mset M k j z k i) := by
  funext i
  rw [mset_at]
  by_cases h : i = j.toNat
  · subst h
    rw [pk_us, if_pos (Int.toNat_of_nonneg hj)]
  · rw [pk_un h, if_neg (fun e => h (by omega))]
theorem mset_row_ne {k k' : Nat} (h : k' ≠ k) (M : MS) (j z : Int) : (fun i : Nat => Int32.ofInt (mset M k j z k' i)) = fun i : Nat => Int32.ofInt (M k' i) := by
  funext i
  rw [mset_ne h]
theorem nar01 {z : Int} (hz : z = 0 ∨ z = 1) : vp_nar .boolean (Int32.ofInt z) = Int32.ofInt z := by
  rcases hz with rfl | rfl <;> decide

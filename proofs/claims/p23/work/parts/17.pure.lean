theorem mset_row {k k' : Nat} (h : k' ≠ k) (M : MS) (j z : Int) : mset M k j z k' = M k' := by
  funext i
  exact mset_ne h M j z i

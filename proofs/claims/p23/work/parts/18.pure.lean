theorem mset_self (M : MS) (k : Nat) (j z : Int) (h : z = M k j) : mset M k j z = M := by
  funext k' j'
  simp only [mset]
  split
  · rename_i hh
    obtain ⟨rfl, rfl⟩ := hh
    exact h
  · rfl
def evM (M : MS) (its by' who what frm time : Int) : MS :=
  let n := M 2 0
  let M1 := mset (mset (mset (mset (mset (mset M 3 n its) 4 n by') 5 n who) 6 n what) 7 n frm) 8 n time
  let M2 := mset (mset (mset M1 2 0 (n + 1)) 10 its 1) 23 (10 + by') 1
  if who = -1 then M2 else mset M2 23 who 1
def conM (M : MS) (row frm is : Int) : MS := mset (mset (mset M 15 (20 * row + M 14 row) frm) 16 (20 * row + M 14 row) is) 14 row (M 14 row + 1)
def grpM (M : MS) (p what least days : Int) : MS := mset (mset (mset (mset (mset M 18 (M 17 0) p) 19 (M 17 0) what) 20 (M 17 0) least) 21 (M 17 0) days) 17 0 (M 17 0 + 1)

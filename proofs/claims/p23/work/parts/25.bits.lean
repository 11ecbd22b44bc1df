/-! Masks of bits -/
def bitI (j : Int) : Int := bOp (fun x y => x <<< (y &&& 31)) 1 j
theorem ofInt_bOp (f : Int32 → Int32 → Int32) (a b : Int) : Int32.ofInt (bOp f a b) = f (Int32.ofInt a) (Int32.ofInt b) := by
  unfold bOp
  rw [Int32.ofInt_toInt]
theorem bOp_in (f : Int32 → Int32 → Int32) (a b : Int) : -2147483648 ≤ bOp f a b ∧ bOp f a b ≤ 2147483647 := i32_range _
theorem bit_bv0 : ∀ j : Fin 32, (Int32.ofInt 1 <<< (Int32.ofInt (j.val : Int) &&& 31)).toBitVec = BitVec.twoPow 32 j.val := by decide +kernel
theorem bit_bv (j : Nat) (hj : j < 32) : (Int32.ofInt (bitI j)).toBitVec = BitVec.twoPow 32 j := by
  unfold bitI
  rw [ofInt_bOp]
  exact bit_bv0 ⟨j, hj⟩
theorem bit_get (j i : Nat) (hj : j < 32) : (Int32.ofInt (bitI j)).toBitVec.getLsbD i = decide (j = i) := by
  rw [bit_bv j hj, BitVec.getLsbD_twoPow]
  simp [hj]
theorem bw_and {z : Int} {P : Int → Prop} (hb : BW z P) (j : Nat) (hj : j < 32) : bOp (· &&& ·) z (bitI j) = 0 ↔ ¬ P j := by
  rw [← (hb.2 j hj)]
  have e1 : bOp (· &&& ·) z (bitI j) = 0 ↔ (Int32.ofInt z &&& Int32.ofInt (bitI j)).toBitVec = 0#32 := by
    constructor
    · intro h
      have h2 : (Int32.ofInt z &&& Int32.ofInt (bitI j)) = 0 := Int32.toInt_inj.mp (h.trans rfl)
      rw [h2]; rfl
    · intro h
      have h2 : (Int32.ofInt z &&& Int32.ofInt (bitI j)) = 0 := Int32.toBitVec.inj h
      show (Int32.ofInt z &&& Int32.ofInt (bitI j)).toInt = 0
      rw [h2]; rfl
  rw [e1, Int32.toBitVec_and, bit_bv j hj, BitVec.and_twoPow]
  by_cases h : (Int32.ofInt z).toBitVec.getLsbD j = true
  · rw [if_pos h]
    constructor
    · intro hz
      have := congrArg (fun v => BitVec.getLsbD v j) hz
      simp [hj] at this
    · intro hn; exact absurd h hn
  · rw [if_neg h]
    exact ⟨fun _ => h, fun _ => rfl⟩
theorem bw_or {z : Int} {P : Int → Prop} (hb : BW z P) (i : Nat) (hi : i < 32) : BW (bOp (· ||| ·) z (bitI i)) (fun j => P j ∨ j = i) := by
  refine ⟨bOp_in _ _ _, fun j hj => ?_⟩
  rw [ofInt_bOp, Int32.toBitVec_or, BitVec.getLsbD_or, bit_get i j hi]
  have := hb.2 j hj
  simp only [Bool.or_eq_true, decide_eq_true_eq, this]
  constructor
  · rintro (h | h)
    · exact Or.inl h
    · exact Or.inr (by omega)
  · rintro (h | h)
    · exact Or.inl h
    · exact Or.inr (by omega)
theorem bw_xor {z : Int} {P : Int → Prop} (hb : BW z P) (i : Nat) (hi : i < 32) : BW (bOp (· ^^^ ·) z (bitI i)) (fun j => (P j ∧ ¬ j = i) ∨ (¬ P j ∧ j = i)) := by
  refine ⟨bOp_in _ _ _, fun j hj => ?_⟩
  rw [ofInt_bOp, Int32.toBitVec_xor, BitVec.getLsbD_xor, bit_get i j hi]
  have := hb.2 j hj
  by_cases e : i = j
  · subst e
    simp [← this]
  · have e2 : ¬ (j : Int) = i := by omega
    rw [decide_eq_false e, Bool.xor_false, this]
    exact ⟨fun h => Or.inl ⟨h, e2⟩, fun h => h.elim (fun q => q.1) (fun q => absurd q.2 e2)⟩
theorem m1_bv : (Int32.ofInt (-1)).toBitVec = BitVec.allOnes 32 := by decide +kernel
theorem bw_off {z : Int} {P : Int → Prop} (hb : BW z P) (i : Nat) (hi : i < 32) : BW (bOp (· &&& ·) z (bOp (· ^^^ ·) (bitI i) (-1))) (fun j => P j ∧ ¬ j = i) := by
  refine ⟨bOp_in _ _ _, fun j hj => ?_⟩
  rw [ofInt_bOp, ofInt_bOp, Int32.toBitVec_and, Int32.toBitVec_xor, BitVec.getLsbD_and, BitVec.getLsbD_xor, bit_get i j hi, m1_bv, BitVec.getLsbD_allOnes]
  have := hb.2 j hj
  by_cases e : i = j
  · subst e
    simp [hj]
  · have e2 : ¬ (j : Int) = i := by omega
    rw [decide_eq_false e, decide_eq_true hj, Bool.false_xor, Bool.and_true, this]
    exact ⟨fun h => ⟨h, e2⟩, fun h => h.1⟩
theorem BW.cong {z : Int} {P Q : Int → Prop} (hb : BW z P) (h : ∀ j : Nat, j < 32 → (P j ↔ Q j)) : BW z Q := ⟨hb.1, fun j hj => (hb.2 j hj).trans (h j hj)⟩
theorem bw_0 : BW 0 (fun _ => False) := ⟨by omega, fun j hj => by
  have : (Int32.ofInt 0).toBitVec = 0#32 := by decide +kernel
  rw [this]; simp⟩

/-! The reference's memory: M k j, field k of VisitorLoomModel; an array's elements by j, a number at 0 -/
abbrev MS : Type := Nat → Int → Int
def mset (M : MS) (k : Nat) (j z : Int) : MS := fun k' j' => if k' = k ∧ j' = j then z else M k' j'
theorem mset_eq (M : MS) (k : Nat) (j z : Int) : mset M k j z k j = z := by simp [mset]
theorem mset_ne {k k' : Nat} (h : k' ≠ k) (M : MS) (j z j' : Int) : mset M k j z k' j' = M k' j' := by simp [mset, h]
theorem mset_ne2 {j j' : Int} (h : j' ≠ j) (M : MS) (k k' : Nat) (z : Int) : mset M k j z k' j' = M k' j' := by simp [mset, h]
theorem mset_at (M : MS) (k : Nat) (j z j' : Int) : mset M k j z k j' = if j' = j then z else M k j' := by simp [mset]
theorem mset_row_eq (M : MS) (k : Nat) {j : Int} (hj : 0 ≤ j) (z : Int) : upd (fun i : Nat => Int32.ofInt (M k i)) j.toNat (Int32.ofInt z) = fun i : Nat => Int32.ofInt (mset M k j z k i) := by
  funext i
  rw [mset_at]
  by_cases h : i = j.toNat
  · subst h
    rw [pk_us, if_pos (Int.toNat_of_nonneg hj)]
  · rw [pk_un h, if_neg (fun e => h (by omega))]
theorem mset_row_ne {k k' : Nat} (h : k' ≠ k) (M : MS) (j z : Int) : (fun i : Nat => Int32.ofInt (mset M k j z k' i)) = fun i : Nat => Int32.ofInt (M k' i) := by
  funext i
  rw [mset_ne h]
def mflds (b : Nat → Nat) (t : Int) (M : MS) : List Value := [vi t, vi (M 1 0), vi (M 2 0), vr (some (b 3)), vr (some (b 4)), vr (some (b 5)), vr (some (b 6)), vr (some (b 7)), vr (some (b 8)), vr (some (b 9)), vr (some (b 10)), vr (some (b 11)), vr (some (b 12)), vr (some (b 13)), vr (some (b 14)), vr (some (b 15)), vr (some (b 16)), vi (M 17 0), vr (some (b 18)), vr (some (b 19)), vr (some (b 20)), vr (some (b 21)), vr (some (b 22)), vr (some (b 23)), vi (M 24 0), vr (some (b 25)), vi (M 26 0), vr (some (b 27))]
def wsM (cy : CY) (b : Nat → Nat) (t : Int) (M : MS) : va_W := [(b 0, .inr (7, mflds b t M)), (b 3, .inl (cy.1, 200, .inl (fun i : Nat => Int32.ofInt (M 3 i)))), (b 4, .inl (cy.1, 200, .inl (fun i : Nat => Int32.ofInt (M 4 i)))), (b 5, .inl (cy.1, 200, .inl (fun i : Nat => Int32.ofInt (M 5 i)))), (b 6, .inl (cy.1, 200, .inl (fun i : Nat => Int32.ofInt (M 6 i)))), (b 7, .inl (cy.1, 200, .inl (fun i : Nat => Int32.ofInt (M 7 i)))), (b 8, .inl (cy.1, 200, .inl (fun i : Nat => Int32.ofInt (M 8 i)))), (b 9, .inl (cy.2.1, 200, .inl (fun i : Nat => Int32.ofInt (M 9 i)))), (b 10, .inl (cy.2.1, 1000, .inl (fun i : Nat => Int32.ofInt (M 10 i)))), (b 11, .inl (cy.1, 10, .inl (fun i : Nat => Int32.ofInt (M 11 i)))), (b 12, .inl (cy.2.1, 10, .inl (fun i : Nat => Int32.ofInt (M 12 i)))), (b 13, .inl (cy.2.1, 100, .inl (fun i : Nat => Int32.ofInt (M 13 i)))), (b 14, .inl (cy.1, 80, .inl (fun i : Nat => Int32.ofInt (M 14 i)))), (b 15, .inl (cy.1, 1600, .inl (fun i : Nat => Int32.ofInt (M 15 i)))), (b 16, .inl (cy.2.1, 1600, .inl (fun i : Nat => Int32.ofInt (M 16 i)))), (b 18, .inl (cy.1, 8, .inl (fun i : Nat => Int32.ofInt (M 18 i)))), (b 19, .inl (cy.1, 8, .inl (fun i : Nat => Int32.ofInt (M 19 i)))), (b 20, .inl (cy.1, 8, .inl (fun i : Nat => Int32.ofInt (M 20 i)))), (b 21, .inl (cy.1, 8, .inl (fun i : Nat => Int32.ofInt (M 21 i)))), (b 22, .inl (cy.2.1, 160, .inl (fun i : Nat => Int32.ofInt (M 22 i)))), (b 23, .inl (cy.2.1, 20, .inl (fun i : Nat => Int32.ofInt (M 23 i)))), (b 25, .inl (cy.1, 160, .inl (fun i : Nat => Int32.ofInt (M 25 i)))), (b 27, .inl (cy.1, 20, .inl (fun i : Nat => Int32.ofInt (M 27 i))))]
def IM (cy : CY) (b : Nat → Nat) (q : Int × MS) (ws : va_W) : Prop := ws = wsM cy b q.1 q.2
theorem wsM_put0 (cy : CY) (b : Nat → Nat) (t : Int) (M : MS) (z : Int) : (wsM cy b t M).set 0 (b 0, .inr (7, (mflds b t M).set 0 (vi z))) = wsM cy b z M := by
  simp [wsM, mflds]
theorem wsM_put1 (cy : CY) (b : Nat → Nat) (t : Int) (M : MS) (z : Int) : (wsM cy b t M).set 0 (b 0, .inr (7, (mflds b t M).set 1 (vi z))) = wsM cy b t (mset M 1 0 z) := by
  simp [wsM, mflds, mset]
theorem wsM_put2 (cy : CY) (b : Nat → Nat) (t : Int) (M : MS) (z : Int) : (wsM cy b t M).set 0 (b 0, .inr (7, (mflds b t M).set 2 (vi z))) = wsM cy b t (mset M 2 0 z) := by
  simp [wsM, mflds, mset]
theorem wsM_put17 (cy : CY) (b : Nat → Nat) (t : Int) (M : MS) (z : Int) : (wsM cy b t M).set 0 (b 0, .inr (7, (mflds b t M).set 17 (vi z))) = wsM cy b t (mset M 17 0 z) := by
  simp [wsM, mflds, mset]
theorem wsM_put24 (cy : CY) (b : Nat → Nat) (t : Int) (M : MS) (z : Int) : (wsM cy b t M).set 0 (b 0, .inr (7, (mflds b t M).set 24 (vi z))) = wsM cy b t (mset M 24 0 z) := by
  simp [wsM, mflds, mset]
theorem wsM_put26 (cy : CY) (b : Nat → Nat) (t : Int) (M : MS) (z : Int) : (wsM cy b t M).set 0 (b 0, .inr (7, (mflds b t M).set 26 (vi z))) = wsM cy b t (mset M 26 0 z) := by
  simp [wsM, mflds, mset]
theorem wsM_st3 (cy : CY) (b : Nat → Nat) (t : Int) (M : MS) {j : Int} (hj : 0 ≤ j) (z : Int) : (wsM cy b t M).set 1 (b 3, .inl (cy.1, 200, .inl (upd (fun i : Nat => Int32.ofInt (M 3 i)) j.toNat (Int32.ofInt z)))) = wsM cy b t (mset M 3 j z) := by
  rw [mset_row_eq M 3 hj z]
  simp [wsM, mflds, mset]
theorem wsM_st4 (cy : CY) (b : Nat → Nat) (t : Int) (M : MS) {j : Int} (hj : 0 ≤ j) (z : Int) : (wsM cy b t M).set 2 (b 4, .inl (cy.1, 200, .inl (upd (fun i : Nat => Int32.ofInt (M 4 i)) j.toNat (Int32.ofInt z)))) = wsM cy b t (mset M 4 j z) := by
  rw [mset_row_eq M 4 hj z]
  simp [wsM, mflds, mset]
theorem wsM_st5 (cy : CY) (b : Nat → Nat) (t : Int) (M : MS) {j : Int} (hj : 0 ≤ j) (z : Int) : (wsM cy b t M).set 3 (b 5, .inl (cy.1, 200, .inl (upd (fun i : Nat => Int32.ofInt (M 5 i)) j.toNat (Int32.ofInt z)))) = wsM cy b t (mset M 5 j z) := by
  rw [mset_row_eq M 5 hj z]
  simp [wsM, mflds, mset]
theorem wsM_st6 (cy : CY) (b : Nat → Nat) (t : Int) (M : MS) {j : Int} (hj : 0 ≤ j) (z : Int) : (wsM cy b t M).set 4 (b 6, .inl (cy.1, 200, .inl (upd (fun i : Nat => Int32.ofInt (M 6 i)) j.toNat (Int32.ofInt z)))) = wsM cy b t (mset M 6 j z) := by
  rw [mset_row_eq M 6 hj z]
  simp [wsM, mflds, mset]
theorem wsM_st7 (cy : CY) (b : Nat → Nat) (t : Int) (M : MS) {j : Int} (hj : 0 ≤ j) (z : Int) : (wsM cy b t M).set 5 (b 7, .inl (cy.1, 200, .inl (upd (fun i : Nat => Int32.ofInt (M 7 i)) j.toNat (Int32.ofInt z)))) = wsM cy b t (mset M 7 j z) := by
  rw [mset_row_eq M 7 hj z]
  simp [wsM, mflds, mset]
theorem wsM_st8 (cy : CY) (b : Nat → Nat) (t : Int) (M : MS) {j : Int} (hj : 0 ≤ j) (z : Int) : (wsM cy b t M).set 6 (b 8, .inl (cy.1, 200, .inl (upd (fun i : Nat => Int32.ofInt (M 8 i)) j.toNat (Int32.ofInt z)))) = wsM cy b t (mset M 8 j z) := by
  rw [mset_row_eq M 8 hj z]
  simp [wsM, mflds, mset]
theorem wsM_st9 (cy : CY) (b : Nat → Nat) (t : Int) (M : MS) {j : Int} (hj : 0 ≤ j) (z : Int) : (wsM cy b t M).set 7 (b 9, .inl (cy.2.1, 200, .inl (upd (fun i : Nat => Int32.ofInt (M 9 i)) j.toNat (Int32.ofInt z)))) = wsM cy b t (mset M 9 j z) := by
  rw [mset_row_eq M 9 hj z]
  simp [wsM, mflds, mset]
theorem wsM_st10 (cy : CY) (b : Nat → Nat) (t : Int) (M : MS) {j : Int} (hj : 0 ≤ j) (z : Int) : (wsM cy b t M).set 8 (b 10, .inl (cy.2.1, 1000, .inl (upd (fun i : Nat => Int32.ofInt (M 10 i)) j.toNat (Int32.ofInt z)))) = wsM cy b t (mset M 10 j z) := by
  rw [mset_row_eq M 10 hj z]
  simp [wsM, mflds, mset]
theorem wsM_st11 (cy : CY) (b : Nat → Nat) (t : Int) (M : MS) {j : Int} (hj : 0 ≤ j) (z : Int) : (wsM cy b t M).set 9 (b 11, .inl (cy.1, 10, .inl (upd (fun i : Nat => Int32.ofInt (M 11 i)) j.toNat (Int32.ofInt z)))) = wsM cy b t (mset M 11 j z) := by
  rw [mset_row_eq M 11 hj z]
  simp [wsM, mflds, mset]
theorem wsM_st12 (cy : CY) (b : Nat → Nat) (t : Int) (M : MS) {j : Int} (hj : 0 ≤ j) (z : Int) : (wsM cy b t M).set 10 (b 12, .inl (cy.2.1, 10, .inl (upd (fun i : Nat => Int32.ofInt (M 12 i)) j.toNat (Int32.ofInt z)))) = wsM cy b t (mset M 12 j z) := by
  rw [mset_row_eq M 12 hj z]
  simp [wsM, mflds, mset]
theorem wsM_st13 (cy : CY) (b : Nat → Nat) (t : Int) (M : MS) {j : Int} (hj : 0 ≤ j) (z : Int) : (wsM cy b t M).set 11 (b 13, .inl (cy.2.1, 100, .inl (upd (fun i : Nat => Int32.ofInt (M 13 i)) j.toNat (Int32.ofInt z)))) = wsM cy b t (mset M 13 j z) := by
  rw [mset_row_eq M 13 hj z]
  simp [wsM, mflds, mset]
theorem wsM_st14 (cy : CY) (b : Nat → Nat) (t : Int) (M : MS) {j : Int} (hj : 0 ≤ j) (z : Int) : (wsM cy b t M).set 12 (b 14, .inl (cy.1, 80, .inl (upd (fun i : Nat => Int32.ofInt (M 14 i)) j.toNat (Int32.ofInt z)))) = wsM cy b t (mset M 14 j z) := by
  rw [mset_row_eq M 14 hj z]
  simp [wsM, mflds, mset]
theorem wsM_st15 (cy : CY) (b : Nat → Nat) (t : Int) (M : MS) {j : Int} (hj : 0 ≤ j) (z : Int) : (wsM cy b t M).set 13 (b 15, .inl (cy.1, 1600, .inl (upd (fun i : Nat => Int32.ofInt (M 15 i)) j.toNat (Int32.ofInt z)))) = wsM cy b t (mset M 15 j z) := by
  rw [mset_row_eq M 15 hj z]
  simp [wsM, mflds, mset]
theorem wsM_st16 (cy : CY) (b : Nat → Nat) (t : Int) (M : MS) {j : Int} (hj : 0 ≤ j) (z : Int) : (wsM cy b t M).set 14 (b 16, .inl (cy.2.1, 1600, .inl (upd (fun i : Nat => Int32.ofInt (M 16 i)) j.toNat (Int32.ofInt z)))) = wsM cy b t (mset M 16 j z) := by
  rw [mset_row_eq M 16 hj z]
  simp [wsM, mflds, mset]
theorem wsM_st18 (cy : CY) (b : Nat → Nat) (t : Int) (M : MS) {j : Int} (hj : 0 ≤ j) (z : Int) : (wsM cy b t M).set 15 (b 18, .inl (cy.1, 8, .inl (upd (fun i : Nat => Int32.ofInt (M 18 i)) j.toNat (Int32.ofInt z)))) = wsM cy b t (mset M 18 j z) := by
  rw [mset_row_eq M 18 hj z]
  simp [wsM, mflds, mset]
theorem wsM_st19 (cy : CY) (b : Nat → Nat) (t : Int) (M : MS) {j : Int} (hj : 0 ≤ j) (z : Int) : (wsM cy b t M).set 16 (b 19, .inl (cy.1, 8, .inl (upd (fun i : Nat => Int32.ofInt (M 19 i)) j.toNat (Int32.ofInt z)))) = wsM cy b t (mset M 19 j z) := by
  rw [mset_row_eq M 19 hj z]
  simp [wsM, mflds, mset]
theorem wsM_st20 (cy : CY) (b : Nat → Nat) (t : Int) (M : MS) {j : Int} (hj : 0 ≤ j) (z : Int) : (wsM cy b t M).set 17 (b 20, .inl (cy.1, 8, .inl (upd (fun i : Nat => Int32.ofInt (M 20 i)) j.toNat (Int32.ofInt z)))) = wsM cy b t (mset M 20 j z) := by
  rw [mset_row_eq M 20 hj z]
  simp [wsM, mflds, mset]
theorem wsM_st21 (cy : CY) (b : Nat → Nat) (t : Int) (M : MS) {j : Int} (hj : 0 ≤ j) (z : Int) : (wsM cy b t M).set 18 (b 21, .inl (cy.1, 8, .inl (upd (fun i : Nat => Int32.ofInt (M 21 i)) j.toNat (Int32.ofInt z)))) = wsM cy b t (mset M 21 j z) := by
  rw [mset_row_eq M 21 hj z]
  simp [wsM, mflds, mset]
theorem wsM_st22 (cy : CY) (b : Nat → Nat) (t : Int) (M : MS) {j : Int} (hj : 0 ≤ j) (z : Int) : (wsM cy b t M).set 19 (b 22, .inl (cy.2.1, 160, .inl (upd (fun i : Nat => Int32.ofInt (M 22 i)) j.toNat (Int32.ofInt z)))) = wsM cy b t (mset M 22 j z) := by
  rw [mset_row_eq M 22 hj z]
  simp [wsM, mflds, mset]
theorem wsM_st23 (cy : CY) (b : Nat → Nat) (t : Int) (M : MS) {j : Int} (hj : 0 ≤ j) (z : Int) : (wsM cy b t M).set 20 (b 23, .inl (cy.2.1, 20, .inl (upd (fun i : Nat => Int32.ofInt (M 23 i)) j.toNat (Int32.ofInt z)))) = wsM cy b t (mset M 23 j z) := by
  rw [mset_row_eq M 23 hj z]
  simp [wsM, mflds, mset]
theorem wsM_st25 (cy : CY) (b : Nat → Nat) (t : Int) (M : MS) {j : Int} (hj : 0 ≤ j) (z : Int) : (wsM cy b t M).set 21 (b 25, .inl (cy.1, 160, .inl (upd (fun i : Nat => Int32.ofInt (M 25 i)) j.toNat (Int32.ofInt z)))) = wsM cy b t (mset M 25 j z) := by
  rw [mset_row_eq M 25 hj z]
  simp [wsM, mflds, mset]
theorem wsM_st27 (cy : CY) (b : Nat → Nat) (t : Int) (M : MS) {j : Int} (hj : 0 ≤ j) (z : Int) : (wsM cy b t M).set 22 (b 27, .inl (cy.1, 20, .inl (upd (fun i : Nat => Int32.ofInt (M 27 i)) j.toNat (Int32.ofInt z)))) = wsM cy b t (mset M 27 j z) := by
  rw [mset_row_eq M 27 hj z]
  simp [wsM, mflds, mset]
section MRules
variable {φ : Fx} {k n pc : Nat} {L : List (Nat × Value)} {st : List Value} {cc : ByteArray} {own : String} {ret : Option FieldType} {cy : CY} {b : Nat → Nat} {t : Int} {M : MS}
theorem m_recv : ∀ ws, IM cy b (t, M) ws → ∃ (q0 : Nat) (fs : List Value), ws[q0]? = some (b 0, Sum.inr (7, fs)) := fun ws h => ⟨0, mflds b t M, by rw [h]; rfl⟩
theorem m_get {f idx : Nat} {v : Value} (C : Cx φ cc own ret cy) (hf : f < 28) (hw : Cond.fieldLink own idx "VisitorLoomModel" (TX7 f).2.1 (TX7 f).2.2.1 ∈ wsL_law) (hv : (mflds b t M)[f]? = some v) (ho : (TX7 f).1 = "VisitorLoomModel") (hd : decode cc pc = .ok (.getfield idx, 3)) (kk : X φ (IM cy b (t, M)) k n (pc + 3) L (v :: st)) : X φ (IM cy b (t, M)) k n pc L (vr (some (b 0)) :: st) := by
  obtain ⟨p, l, e, R, s, m, args, below, meth, c, A, nL, D, Q⟩ := φ
  obtain ⟨hx, hb, hr, hml, hown, hts, hlocks, hK, -⟩ := C
  intro H locs ws cells slots ls c1 c2 hI hP hD hS hl
  have hI' : ws = wsM cy b t M := hI
  refine va_get (D := D) (ci := 7) (fs := mflds b t M) (C := RX7) (T := TX7) (N := 28) hx hb hts inlX7 hown hK hP 0 (by rw [hI']; rfl) rfl f hf (hts _ hw) (fun x h => by rw [ho] at h; exact h) hv hd ?_
  exact kk H locs ws cells slots ls c1 c2 hI hP hD hS hl
theorem m_put {f idx : Nat} {z : Int} {t' : Int} {M' : MS} (C : Cx φ cc own ret cy) (hf : f < 28) (hw : Cond.fieldLink own idx "VisitorLoomModel" (TX7 f).2.1 (TX7 f).2.2.1 ∈ wsL_law) (ho : (TX7 f).1 = "VisitorLoomModel") (hfin : (TX7 f).2.2.2 = false) (hty : parseFieldDescriptor (TX7 f).2.2.1 = some .int) (hset : (wsM cy b t M).set 0 (b 0, .inr (7, (mflds b t M).set f (vi z))) = wsM cy b t' M') (hd : decode cc pc = .ok (.putfield idx, 3)) (kk : X φ (IM cy b (t', M')) k n (pc + 3) L st) : X φ (IM cy b (t, M)) k n pc L (vi z :: vr (some (b 0)) :: st) := by
  obtain ⟨p, l, e, R, s, m, args, below, meth, c, A, nL, D, Q⟩ := φ
  obtain ⟨hx, hb, hr, hml, hown, hts, hlocks, hK, -⟩ := C
  intro H locs ws cells slots ls c1 c2 hI hP hD hS hl
  have hI' : ws = wsM cy b t M := hI
  subst hI'
  refine va_put (D := D) (ci := 7) (fs := mflds b t M) (C := RX7) (T := TX7) (N := 28) hx hb hts inlX7 tyX7 tyX7_ok nmX7 hown hK hP hD hS 0 rfl rfl f hf (hts _ hw) (fun x h => by rw [ho] at h; exact h) hfin hty rfl rfl hf hd (fun H1 locs1 hP1 hD1 hS1 => ?_)
  have hP1 : va_P D vwCl ((wsM cy b t M).set 0 (b 0, .inr (7, (mflds b t M).set f (vi z)))) H1 := hP1
  have hD1 : va_D A ((wsM cy b t M).set 0 (b 0, .inr (7, (mflds b t M).set f (vi z)))) := hD1
  rw [hset] at hP1 hD1
  exact kk H1 locs1 _ cells slots ls c1 c2 rfl hP1 hD1 hS1 hl
theorem m_iald {f q0 N : Nat} {j : Int} (C : Cx φ cc own ret cy) (hq : (wsM cy b t M)[q0]? = some (b f, .inl (cy.1, N, .inl (fun i : Nat => Int32.ofInt (M f i))))) (hN : N ≤ 2147483647) (hj : 0 ≤ j ∧ j < N) (hd : decode cc pc = .ok (.iaload, 1)) (kk : X φ (IM cy b (t, M)) k n (pc + 1) L (vi (M f j) :: st)) : X φ (IM cy b (t, M)) k n pc L (vi j :: vr (some (b f)) :: st) := by
  obtain ⟨p, l, e, R, s, m, args, below, meth, c, A, nL, D, Q⟩ := φ
  obtain ⟨hx, hb, hr, hml, hown, hts, hlocks, hK, -⟩ := C
  intro H locs ws cells slots ls c1 c2 hI hP hD hS hl
  have hI' : ws = wsM cy b t M := hI
  have hc := i32_clamp (a := j) hj.1 (by omega)
  refine va_iald hx hb hK hP q0 0 (by rw [hI']; exact hq) rfl (vp_in_iff.mpr (by rw [Int32.toInt_ofInt_of_le (by omega) (by omega)]; exact hj)) hd ?_
  rw [hc, show ((j.toNat : Nat) : Int) = j from Int.toNat_of_nonneg hj.1]
  exact kk H locs ws cells slots ls c1 c2 hI hP hD hS hl
theorem m_zald {f q0 N : Nat} {j : Int} (C : Cx φ cc own ret cy) (hq : (wsM cy b t M)[q0]? = some (b f, .inl (cy.2.1, N, .inl (fun i : Nat => Int32.ofInt (M f i))))) (hN : N ≤ 2147483647) (hj : 0 ≤ j ∧ j < N) (hd : decode cc pc = .ok (.baload, 1)) (kk : X φ (IM cy b (t, M)) k n (pc + 1) L (vi (M f j) :: st)) : X φ (IM cy b (t, M)) k n pc L (vi j :: vr (some (b f)) :: st) := by
  obtain ⟨p, l, e, R, s, m, args, below, meth, c, A, nL, D, Q⟩ := φ
  obtain ⟨hx, hb, hr, hml, hown, hts, hlocks, hK, -⟩ := C
  intro H locs ws cells slots ls c1 c2 hI hP hD hS hl
  have hI' : ws = wsM cy b t M := hI
  have hc := i32_clamp (a := j) hj.1 (by omega)
  refine va_zald hx hb hK hP q0 1 (by rw [hI']; exact hq) rfl (vp_in_iff.mpr (by rw [Int32.toInt_ofInt_of_le (by omega) (by omega)]; exact hj)) hd ?_
  rw [hc, show ((j.toNat : Nat) : Int) = j from Int.toNat_of_nonneg hj.1]
  exact kk H locs ws cells slots ls c1 c2 hI hP hD hS hl
theorem m_iast {f q0 N : Nat} {j z : Int} {t' : Int} {M' : MS} (C : Cx φ cc own ret cy) (hq : (wsM cy b t M)[q0]? = some (b f, .inl (cy.1, N, .inl (fun i : Nat => Int32.ofInt (M f i))))) (hN : N ≤ 2147483647) (hj : 0 ≤ j ∧ j < N) (hset : (wsM cy b t M).set q0 (b f, .inl (cy.1, N, .inl (upd (fun i : Nat => Int32.ofInt (M f i)) j.toNat (Int32.ofInt z)))) = wsM cy b t' M') (hd : decode cc pc = .ok (.iastore, 1)) (kk : X φ (IM cy b (t', M')) k n (pc + 1) L st) : X φ (IM cy b (t, M)) k n pc L (vi z :: vi j :: vr (some (b f)) :: st) := by
  obtain ⟨p, l, e, R, s, m, args, below, meth, c, A, nL, D, Q⟩ := φ
  obtain ⟨hx, hb, hr, hml, hown, hts, hlocks, hK, -⟩ := C
  intro H locs ws cells slots ls c1 c2 hI hP hD hS hl
  have hI' : ws = wsM cy b t M := hI
  subst hI'
  have hc := i32_clamp (a := j) hj.1 (by omega)
  refine va_iast hx hb hK hP hD hS q0 0 hq rfl (vp_in_iff.mpr (by rw [Int32.toInt_ofInt_of_le (by omega) (by omega)]; exact hj)) hd (fun H1 locs1 hP1 hD1 hS1 => ?_)
  rw [hc] at hP1 hD1
  have hP1 : va_P D vwCl ((wsM cy b t M).set q0 (b f, .inl (cy.1, N, .inl (upd (fun i : Nat => Int32.ofInt (M f i)) j.toNat (Int32.ofInt z))))) H1 := hP1
  have hD1 : va_D A ((wsM cy b t M).set q0 (b f, .inl (cy.1, N, .inl (upd (fun i : Nat => Int32.ofInt (M f i)) j.toNat (Int32.ofInt z))))) := hD1
  rw [hset] at hP1 hD1
  exact kk H1 locs1 _ cells slots ls c1 c2 rfl hP1 hD1 hS1 hl
theorem nar01 {z : Int} (hz : z = 0 ∨ z = 1) : vp_nar .boolean (Int32.ofInt z) = Int32.ofInt z := by
  rcases hz with rfl | rfl <;> decide
theorem m_zast {f q0 N : Nat} {j z : Int} {t' : Int} {M' : MS} (C : Cx φ cc own ret cy) (hq : (wsM cy b t M)[q0]? = some (b f, .inl (cy.2.1, N, .inl (fun i : Nat => Int32.ofInt (M f i))))) (hN : N ≤ 2147483647) (hj : 0 ≤ j ∧ j < N) (hz : z = 0 ∨ z = 1) (hset : (wsM cy b t M).set q0 (b f, .inl (cy.2.1, N, .inl (upd (fun i : Nat => Int32.ofInt (M f i)) j.toNat (Int32.ofInt z)))) = wsM cy b t' M') (hd : decode cc pc = .ok (.bastore, 1)) (kk : X φ (IM cy b (t', M')) k n (pc + 1) L st) : X φ (IM cy b (t, M)) k n pc L (vi z :: vi j :: vr (some (b f)) :: st) := by
  obtain ⟨p, l, e, R, s, m, args, below, meth, c, A, nL, D, Q⟩ := φ
  obtain ⟨hx, hb, hr, hml, hown, hts, hlocks, hK, -⟩ := C
  intro H locs ws cells slots ls c1 c2 hI hP hD hS hl
  have hI' : ws = wsM cy b t M := hI
  subst hI'
  have hc := i32_clamp (a := j) hj.1 (by omega)
  refine va_zast hx hb hK hP hD hS q0 1 hq rfl (vp_in_iff.mpr (by rw [Int32.toInt_ofInt_of_le (by omega) (by omega)]; exact hj)) hd (fun H1 locs1 hP1 hD1 hS1 => ?_)
  rw [hc, nar01 hz] at hP1 hD1
  have hP1 : va_P D vwCl ((wsM cy b t M).set q0 (b f, .inl (cy.2.1, N, .inl (upd (fun i : Nat => Int32.ofInt (M f i)) j.toNat (Int32.ofInt z))))) H1 := hP1
  have hD1 : va_D A ((wsM cy b t M).set q0 (b f, .inl (cy.2.1, N, .inl (upd (fun i : Nat => Int32.ofInt (M f i)) j.toNat (Int32.ofInt z))))) := hD1
  rw [hset] at hP1 hD1
  exact kk H1 locs1 _ cells slots ls c1 c2 rfl hP1 hD1 hS1 hl
end MRules

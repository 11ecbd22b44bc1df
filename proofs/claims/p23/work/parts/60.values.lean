/-! The class's numbers are the reference's -/
theorem low_eq {M M1 : MS} {f : Int → Int} (hf : IsLow M f) (h1 : Fnd M M1) (a : Int) (h0 : 0 ≤ a) (h2 : a < 20) : M1 27 a = f a := h1.2.uniq hf a h0 h2
def upto (n : Nat) : List Int := (List.range n).map (fun i : Nat => (i : Int))
theorem upto_succ (n : Nat) : upto (n + 1) = upto n ++ [(n : Int)] := by simp [upto, List.range_succ]
theorem upto_mem {n : Nat} {e : Int} (h : e ∈ upto n) : 0 ≤ e ∧ e < n := by
  simp only [upto, List.mem_map, List.mem_range] at h
  obtain ⟨i, hi, rfl⟩ := h
  omega
theorem evN_cnt (M : MS) (f : Int → Int) (k kind : Int) : ∀ l : List Int, evN M f k kind l = (l.countP (fun e => decide (evP M f k kind e)) : Nat) := by
  intro l
  induction l with
  | nil => rfl
  | cons e l ih =>
    simp only [evN, List.countP_cons, ih]
    by_cases h : evP M f k kind e
    · rw [if_pos h, decide_eq_true h]; simp; omega
    · rw [if_neg h, decide_eq_false h]; simp
theorem cfN_cnt (M : MS) (f : Int → Int) (k p kind mi days : Int) : ∀ l : List Int, cfN M f k p kind mi days l = (l.countP (fun e => decide (cfP M f k p kind mi days e)) : Nat) := by
  intro l
  induction l with
  | nil => rfl
  | cons e l ih =>
    simp only [cfN, List.countP_cons, ih]
    by_cases h : cfP M f k p kind mi days e
    · rw [if_pos h, decide_eq_true h]; simp; omega
    · rw [if_neg h, decide_eq_false h]; simp
theorem evF_cnt (M : MS) (node what : Int) : ∀ n : Nat, evF M node what n = ((upto n).countP (fun e => decide (blg M e node ∧ (what = -1 ∨ M 6 e = what))) : Nat) := by
  intro n
  induction n with
  | zero => rfl
  | succ n ih =>
    rw [upto_succ, List.countP_append]
    simp only [evF, ih, List.countP_singleton]
    by_cases h : blg M n node ∧ (what = -1 ∨ M 6 n = what)
    · rw [if_pos h, decide_eq_true h]; simp
    · rw [if_neg h, decide_eq_false h]; simp
theorem sumF_cnt (M : MS) (node p what minute days : Int) : ∀ n : Nat, sumF M node p what minute days n = ((upto n).countP (fun e => decide (inS M node p what minute days e)) : Nat) := by
  intro n
  induction n with
  | zero => rfl
  | succ n ih =>
    rw [upto_succ, List.countP_append]
    simp only [sumF, ih, List.countP_singleton]
    by_cases h : inS M node p what minute days n
    · rw [if_pos h, decide_eq_true h]; simp
    · rw [if_neg h, decide_eq_false h]; simp
theorem cnt_live {M : MS} {l : List Int} (hO : Ord M l) (hM : MI M) (p q : Int → Bool) (h : ∀ e, 0 ≤ e → e < M 2 0 → ((p e = true ∧ M 9 e = 0) ↔ q e = true)) : l.countP p = (upto (M 2 0).toNat).countP q := by
  have hn := hM.n
  rw [(hO.perm hn.1).countP_eq]
  show (List.filter _ (upto (M 2 0).toNat)).countP p = _
  rw [List.countP_filter]
  refine List.countP_congr (fun e he => ?_)
  have h2 := upto_mem he
  rw [← h e h2.1 (by omega)]
  simp
section Vals
variable {M M1 : MS} {f : Int → Int} {l : List Int}
theorem blg_eq (hM : MI M) (hf : IsLow M f) (h1 : Fnd M M1) {e x : Int} (he : 0 ≤ e ∧ e < M 2 0) (hx : 0 ≤ x ∧ x < 20) : blg M1 e x ↔ (M 9 e = 0 ∧ f (ndOf M e) = f x) := by
  have hn := ndOf_in hM he.1 he.2
  show (M1 9 e = 0 ∧ M1 27 (ndOf M1 e) = M1 27 x) ↔ _
  rw [h1.sm.no e, low_eq hf h1 _ hn.1 hn.2, low_eq hf h1 x hx.1 hx.2, h1.1 9 (by decide)]
theorem ev_eq (hM : MI M) (hO : Ord M l) (hf : IsLow M f) (h1 : Fnd M M1) {x : Int} (kind : Int) (hx : 0 ≤ x ∧ x < 20) : evF M1 x kind (M1 2 0).toNat = evN M f (f x) kind l := by
  rw [evF_cnt, evN_cnt, h1.1 2 (by decide)]
  refine congrArg _ (cnt_live hO hM _ _ (fun e e0 e1 => ?_)).symm
  have hb := blg_eq hM hf h1 (e := e) (x := x) ⟨e0, e1⟩ hx
  simp only [decide_eq_true_eq]
  rw [hb, h1.1 6 (by decide)]
  show ((f (ndOf M e) = f x ∧ (kind = -1 ∨ M 6 e = kind)) ∧ M 9 e = 0) ↔ _
  constructor
  · rintro ⟨⟨a, b⟩, c⟩; exact ⟨⟨c, a⟩, b⟩
  · rintro ⟨⟨a, b⟩, c⟩; exact ⟨⟨b, c⟩, a⟩
theorem cf_eq (hM : MI M) (hO : Ord M l) (hf : IsLow M f) (h1 : Fnd M M1) {x : Int} (p kind mi days : Int) (hx : 0 ≤ x ∧ x < 20) : sumF M1 x p kind mi days (M1 2 0).toNat = cfN M f (f x) p kind mi days l := by
  rw [sumF_cnt, cfN_cnt, h1.1 2 (by decide)]
  refine congrArg _ (cnt_live hO hM _ _ (fun e e0 e1 => ?_)).symm
  have hb := blg_eq hM hf h1 (e := e) (x := x) ⟨e0, e1⟩ hx
  simp only [decide_eq_true_eq]
  show ((f (ndOf M e) = f x ∧ M 6 e = kind ∧ tmOf M e ≤ mi ∧ mi - days * 1440 < tmOf M e ∧ cnt M e p) ∧ M 9 e = 0) ↔ (blg M1 e x ∧ M1 6 e = kind ∧ tmOf M1 e ≤ mi ∧ mi - 1440 * days < tmOf M1 e ∧ cnt M1 e p)
  rw [hb, h1.1 6 (by decide), h1.sm.tm e, h1.sm.cn e p, Int.mul_comm days 1440]
  constructor
  · rintro ⟨⟨a, b⟩, c⟩; exact ⟨⟨c, a⟩, b⟩
  · rintro ⟨⟨a, b⟩, c⟩; exact ⟨⟨b, c⟩, a⟩
theorem pr_eq (hM : MI M) (hO : Ord M l) (hf : IsLow M f) (h1 : Fnd M M1) {x : Int} (hx : 0 ≤ x ∧ x < 20) : prof M1 l x = l.filter (fun e => decide (f (ndOf M e) = f x)) := by
  unfold prof
  refine List.filter_congr (fun e he => ?_)
  have hn := ndOf_in hM ((hO.2 e).mp he).1.1 ((hO.2 e).mp he).1.2
  rw [h1.sm.no e, low_eq hf h1 _ hn.1 hn.2, low_eq hf h1 x hx.1 hx.2]
theorem tmN_spec (M : MS) (x : Int) : ∀ l : List Int, (∃ e ∈ l, M 3 e = x ∧ tmN M x l = tmOf M e) ∨ (tmN M x l = -1 ∧ ∀ e ∈ l, ¬ M 3 e = x) := by
  intro l
  induction l with
  | nil => exact Or.inr ⟨rfl, fun e he => by cases he⟩
  | cons y l ih =>
    by_cases h : M 3 y = x
    · exact Or.inl ⟨y, List.mem_cons_self, h, tmN_p h⟩
    · rw [tmN_n h]
      rcases ih with ⟨e, h1, h2, h3⟩ | ⟨h1, h2⟩
      · exact Or.inl ⟨e, List.mem_cons_of_mem _ h1, h2, h3⟩
      · refine Or.inr ⟨h1, fun e he => ?_⟩
        rcases List.mem_cons.mp he with rfl | he
        · exact h
        · exact h2 e he
theorem timeF_spec (M : MS) (x : Int) : ∀ n : Nat, (∃ e : Int, (0 ≤ e ∧ e < n) ∧ M 9 e = 0 ∧ M 3 e = x ∧ timeF M x n = tmOf M e) ∨ (timeF M x n = -1 ∧ ∀ e : Int, 0 ≤ e → e < n → M 9 e = 0 → ¬ M 3 e = x) := by
  intro n
  induction n with
  | zero => exact Or.inr ⟨rfl, fun e h0 h1 => by omega⟩
  | succ n ih =>
    by_cases h : M 3 n = x ∧ M 9 n = 0
    · refine Or.inl ⟨n, by omega, h.2, h.1, ?_⟩
      simp only [timeF]
      rw [if_pos h]
    · have e1 : timeF M x (n + 1) = timeF M x n := by simp only [timeF]; rw [if_neg h]
      rw [e1]
      rcases ih with ⟨e, h1, h2, h3, h4⟩ | ⟨h1, h2⟩
      · exact Or.inl ⟨e, by omega, h2, h3, h4⟩
      · refine Or.inr ⟨h1, fun e e0 e1 e9 e3 => ?_⟩
        by_cases hen : e = n
        · subst hen; exact h ⟨e3, e9⟩
        · exact h2 e e0 (by omega) e9 e3
theorem time_eq (hM : MI M) (hO : Ord M l) (hu : ∀ e u, 0 ≤ e → e < M 2 0 → 0 ≤ u → u < M 2 0 → M 3 e = M 3 u → e = u) (x : Int) : timeF M x (M 2 0).toNat = tmN M x l := by
  have hn := hM.n
  rcases tmN_spec M x l with ⟨e, h1, h2, h3⟩ | ⟨h1, h2⟩
  · have he := (hO.2 e).mp h1
    rcases timeF_spec M x (M 2 0).toNat with ⟨u, u1, u2, u3, u4⟩ | ⟨u1, u2⟩
    · have := hu e u he.1.1 he.1.2 u1.1 (by omega) (h2.trans u3.symm)
      subst this
      rw [h3, u4]
    · exact absurd h2 (u2 e he.1.1 (by omega) he.2)
  · rcases timeF_spec M x (M 2 0).toNat with ⟨u, u1, u2, u3, u4⟩ | ⟨u1, u2⟩
    · exact absurd u3 (h2 u ((hO.2 u).mpr ⟨⟨u1.1, by omega⟩, u2⟩))
    · rw [h1, u1]
theorem bor0 {z : Int} (hz : -2147483648 ≤ z ∧ z ≤ 2147483647) : bOp (· ||| ·) z 0 = z := by
  show (Int32.ofInt z ||| Int32.ofInt 0).toInt = z
  have : Int32.ofInt z ||| Int32.ofInt 0 = Int32.ofInt z := by
    apply Int32.toBitVec.inj
    rw [Int32.toBitVec_or]
    have : (Int32.ofInt 0).toBitVec = 0#32 := by decide +kernel
    rw [this]
    simp
  rw [this, Int32.toInt_ofInt_of_le (by omega) (by omega)]
theorem grF_in (M : MS) (x : Int) : ∀ i : Nat, -2147483648 ≤ grF M x i ∧ grF M x i ≤ 2147483647 := by
  intro i
  cases i with
  | zero =>
    show -2147483648 ≤ (0 : Int) ∧ (0 : Int) ≤ 2147483647
    decide
  | succ i => exact bOp_in _ _ _
theorem gr_eq (hM : MI M) (hO : Ord M l) (hf : IsLow M f) (h1 : Fnd M M1) {x : Int} (hx : 0 ≤ x ∧ x < 20) : ∀ (n g : Nat), grA M f (f x) l n g (grF M1 x g) = grF M1 x (g + n) := by
  intro n
  induction n with
  | zero => intro g; rfl
  | succ n ih =>
    intro g
    have e1 : grA M f (f x) l (n + 1) g (grF M1 x g) = grA M f (f x) l n ((g : Int) + 1) (if M 20 g ≤ cfN M f (f x) (M 18 g) (M 19 g) (M 1 0) (M 21 g) l then bOp (· ||| ·) (grF M1 x g) (bOp (fun x y => x <<< (y &&& 31)) 1 g) else grF M1 x g) := rfl
    have e2 : (if M 20 g ≤ cfN M f (f x) (M 18 g) (M 19 g) (M 1 0) (M 21 g) l then bOp (· ||| ·) (grF M1 x g) (bOp (fun x y => x <<< (y &&& 31)) 1 g) else grF M1 x g) = grF M1 x (g + 1) := by
      simp only [grF]
      rw [cf_eq hM hO hf h1 _ _ _ _ hx, h1.1 20 (by decide), h1.1 18 (by decide), h1.1 19 (by decide), h1.1 1 (by decide), h1.1 21 (by decide)]
      by_cases hc : M 20 g ≤ cfN M f (f x) (M 18 g) (M 19 g) (M 1 0) (M 21 g) l
      · rw [if_pos hc, if_pos hc]
      · rw [if_neg hc, if_neg hc, bor0 (grF_in M1 x g)]
    rw [e1, e2]
    have := ih (g + 1)
    rw [show ((g + 1 : Nat) : Int) = (g : Int) + 1 from by omega] at this
    rw [this, Nat.add_assoc, Nat.add_comm 1 n]
end Vals

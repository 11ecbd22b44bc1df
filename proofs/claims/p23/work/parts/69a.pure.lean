/-! Sessions event by event: what stands between two rounds -/
abbrev cQ (M : MS) (e : Int) : Prop := M 6 e = 1 ∧ tmOf M e ≤ M 1 0 ∧ M 1 0 - 2880 < tmOf M e ∧ cnt M e 0
def ccF (M : MS) (pl : List Int) (j : Nat) : Int := (((pl.take j).countP (fun e => decide (cQ M e)) : Nat) : Int)
theorem ccF_succ {M : MS} {pl : List Int} {j : Nat} (hj : j < pl.length) : ccF M pl (j + 1) = ccF M pl j + bi (cQ M (at1 pl j)) := by
  unfold ccF
  rw [List.take_succ_eq_append_getElem hj, List.countP_append, at1_lt hj, List.countP_singleton]
  by_cases h : cQ M pl[j]
  · rw [decide_eq_true h, bi_t h]; simp
  · rw [decide_eq_false h, bi_f h]; simp
theorem ccF_in (M : MS) (pl : List Int) (j : Nat) : 0 ≤ ccF M pl j ∧ ccF M pl j ≤ j := by
  unfold ccF
  have h1 := List.countP_le_length (p := fun e => decide (cQ M e)) (l := pl.take j)
  have h2 : (pl.take j).length ≤ j := by rw [List.length_take]; exact Nat.min_le_left _ _
  omega
theorem PR.perm {M : MS} {x : Int} {pl : List Int} (hp : PR M x pl) (hn : 0 ≤ M 2 0) : pl.Perm ((upto (M 2 0).toNat).filter (fun e => decide (blg M e x))) := by
  have hnd : pl.Nodup := hp.1.imp (fun {a b} (hab : ahd M a b) (e : a = b) => ahd_irr M b (e ▸ hab))
  refine (List.perm_ext_iff_of_nodup hnd ?_).mpr (fun e => ?_)
  · refine List.Pairwise.filter _ (List.Pairwise.map _ (fun a b (hab : a < b) => ?_) List.pairwise_lt_range)
    omega
  · rw [hp.2, List.mem_filter]
    simp only [upto, List.mem_map, List.mem_range, decide_eq_true_eq]
    constructor
    · rintro ⟨⟨h1, h2⟩, h3⟩
      exact ⟨⟨e.toNat, by omega, by omega⟩, h3⟩
    · rintro ⟨⟨i, h1, rfl⟩, h3⟩
      exact ⟨⟨by omega, by omega⟩, h3⟩
theorem ev_len {M : MS} {x : Int} {pl : List Int} (hp : PR M x pl) (hn : 0 ≤ M 2 0) : evF M x (-1) (M 2 0).toNat = (pl.length : Int) := by
  rw [evF_cnt, (hp.perm hn).length_eq, ← List.countP_eq_length_filter]
  refine congrArg _ (List.countP_congr (fun e _ => ?_))
  simp
theorem cc_all {M : MS} {x : Int} {pl : List Int} {j : Nat} (hp : PR M x pl) (hn : 0 ≤ M 2 0) (hj : pl.length ≤ j) : ccF M pl j = sumF M x 0 1 (M 1 0) 2 (M 2 0).toNat := by
  unfold ccF
  rw [List.take_of_length_le hj, sumF_cnt, (hp.perm hn).countP_eq, List.countP_filter]
  refine congrArg _ (List.countP_congr (fun e _ => ?_))
  have e1 : M 1 0 - 1440 * 2 = M 1 0 - 2880 := by omega
  simp only [inS, cQ, e1, Bool.and_eq_true, decide_eq_true_eq]
  constructor
  · rintro ⟨⟨a, b, c, d⟩, g⟩; exact ⟨g, a, b, c, d⟩
  · rintro ⟨g, a, b, c, d⟩; exact ⟨⟨a, b, c, d⟩, g⟩
theorem gr_one {M : MS} {x : Int} (h17 : M 17 0 = 1) (h18 : M 18 0 = 0) (h19 : M 19 0 = 1) (h20 : M 20 0 = 2) (h21 : M 21 0 = 2) : grF M x (M 17 0).toNat = if 2 ≤ sumF M x 0 1 (M 1 0) 2 (M 2 0).toNat then 1 else 0 := by
  have e1 : (M 17 0).toNat = 0 + 1 := by omega
  rw [e1]
  have e2 : grF M x (0 + 1) = bOp (· ||| ·) 0 (if M 20 0 ≤ sumF M x (M 18 0) (M 19 0) (M 1 0) (M 21 0) (M 2 0).toNat then bOp (fun x y => x <<< (y &&& 31)) 1 0 else 0) := rfl
  rw [e2, h18, h19, h20, h21]
  by_cases h : 2 ≤ sumF M x 0 1 (M 1 0) 2 (M 2 0).toNat
  · rw [if_pos h, if_pos h]; decide +kernel
  · rw [if_neg h, if_neg h]; decide +kernel
/-- between two rounds: j events are done -/
def SIn (M : MS) (pl : List Int) (j : Nat) (la se be of ins : Int) : Prop := ((-1 ≤ of ∧ of ≤ 9) ∧ (0 ≤ ins ∧ ins ≤ j) ∧ (0 ≤ be ∧ be ≤ 200000) ∧ (-1 ≤ se ∧ se < j)) ∧ ((j = 0 ∧ la = -1 ∧ se = -1 ∧ of = -1) ∨ (0 < j ∧ la = at1 pl (j - 1) ∧ ∃ (done : List Seg) (fs : Int), sgs M pl = done ++ sgGo M fs la ins of (pl.drop j) ∧ se = (done.length : Int) ∧ be = tmOf M fs))
/-- within a round: the event is in a session, not yet in its numbers -/
def SPe (M : MS) (pl : List Int) (j : Nat) (nx se be of ins : Int) : Prop := ((-1 ≤ of ∧ of ≤ 9) ∧ (0 ≤ ins ∧ ins ≤ j) ∧ (0 ≤ be ∧ be ≤ 200000) ∧ (-1 ≤ se ∧ se ≤ j)) ∧ ∃ (done : List Seg) (fs : Int), sgs M pl = done ++ sgGo M fs nx (ins + 1) (if of = -1 then M 7 nx else of) (pl.drop (j + 1)) ∧ se = (done.length : Int) ∧ be = tmOf M fs
theorem SIn.go {M : MS} {pl : List Int} {j : Nat} {la se be of ins : Int} (q : SIn M pl j la se be of ins) (hj : j < pl.length) (hl : 0 ≤ la) (hc : ¬ cts M la (at1 pl j) of) : SPe M pl j (at1 pl j) se be of ins := by
  obtain ⟨⟨r1, r2, r3, r4⟩, q⟩ := q
  rcases q with ⟨-, g, -⟩ | ⟨h0, -, done, fs, h1, h2, h3⟩
  · omega
  · exact ⟨⟨r1, r2, r3, by omega, by omega⟩, done, fs, by rw [h1, sgGo_on M fs la ins of hj hc], h2, h3⟩
theorem SIn.seg {M : MS} {pl : List Int} {j : Nat} {la se be of ins : Int} (q : SIn M pl j la se be of ins) (hl : 0 ≤ la) (hend : at1 pl j = -1 ∧ pl.length ≤ j ∨ (j < pl.length ∧ cts M la (at1 pl j) of)) : ∃ (done : List Seg) (fs : Int), sgs M pl = done ++ (fs, la, ins, of) :: sgs M (pl.drop j) ∧ se = (done.length : Int) ∧ be = tmOf M fs ∧ 0 < j := by
  obtain ⟨-, q⟩ := q
  rcases q with ⟨-, g, -⟩ | ⟨h0, -, done, fs, h1, h2, h3⟩
  · omega
  · exact ⟨done, fs, by rw [h1, sgGo_end M fs la ins of hend], h2, h3, h0⟩
theorem SIn.cut {M : MS} {pl : List Int} {j : Nat} {la se be of ins : Int} (q : SIn M pl j la se be of ins) (hj : j < pl.length) (hc : la < 0 ∨ cts M la (at1 pl j) of) (htm : 0 ≤ tmOf M (at1 pl j) ∧ tmOf M (at1 pl j) ≤ 200000) (hla : 0 < j → 0 ≤ la) : SPe M pl j (at1 pl j) (se + 1) (tmOf M (at1 pl j)) (-1) 0 := by
  have r4 := q.1.2.2.2
  refine ⟨⟨by decide, by omega, htm, by omega, by omega⟩, ?_⟩
  have e0 : (if (-1 : Int) = -1 then M 7 (at1 pl j) else -1) = M 7 (at1 pl j) := if_pos rfl
  rw [e0]
  by_cases h0 : j = 0
  · rcases q.2 with ⟨-, -, g, -⟩ | ⟨h9, -⟩
    · subst h0
      exact ⟨[], at1 pl 0, sgs_at M hj, by rw [g]; rfl, rfl⟩
    · omega
  · obtain ⟨done, fs, h1, h2, h3, -⟩ := q.seg (hla (by omega)) (Or.inr ⟨hj, hc.resolve_left (by have := hla (by omega); omega)⟩)
    refine ⟨done ++ [(fs, la, ins, of)], at1 pl j, ?_, ?_, rfl⟩
    · rw [h1, sgs_at M hj, List.append_assoc]; rfl
    · rw [List.length_append, List.length_singleton]; omega
theorem SPe.next {M : MS} {pl : List Int} {j : Nat} {nx se be of ins of3 : Int} (q : SPe M pl j nx se be of ins) (hx : nx = at1 pl j) (h3 : of3 = if of = -1 then M 7 nx else of) (hr : -1 ≤ of3 ∧ of3 ≤ 9) : SIn M pl (j + 1) nx se be of3 (ins + 1) := by
  obtain ⟨⟨r1, r2, r3, r4⟩, done, fs, h1, h2, h3'⟩ := q
  exact ⟨⟨hr, by omega, r3, by omega, by omega⟩, Or.inr ⟨by omega, by rw [Nat.add_sub_cancel]; exact hx, done, fs, by rw [h3]; exact h1, h2, h3'⟩⟩
theorem SIn.fin {M : MS} {pl : List Int} {j : Nat} {la se be of ins : Int} (q : SIn M pl j la se be of ins) (hj : pl.length = j) : ((sgs M pl).length : Int) = se + 1 := by
  rcases q.2 with ⟨h0, -, g, -⟩ | ⟨h0, -, done, fs, h1, h2, h3⟩
  · have : pl = [] := List.eq_nil_of_length_eq_zero (by omega)
    rw [this, g]; rfl
  · rw [h1, List.drop_eq_nil_of_le (by omega), List.length_append]
    simp only [sgGo, List.length_singleton]
    omega
def NxP (pl : List Int) (la : Int) (j : Nat) : Prop := (la = -1 ∧ j = 0) ∨ ∃ i, j = i + 1 ∧ i < pl.length ∧ la = at1 pl i
/-- numbers and the one group -/
def LX (M : MS) : Prop := (∀ k, 0 ≤ k → k < M 2 0 → M 3 k = k + 1) ∧ (∀ j, M 2 0 < j → M 10 j = 0) ∧ (M 17 0 = 1 ∧ M 18 0 = 0 ∧ M 19 0 = 1 ∧ M 20 0 = 2 ∧ M 21 0 = 2)

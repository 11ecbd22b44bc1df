/-! The events in order -/
def Ord (M : MS) (l : List Int) : Prop := l.Pairwise (ahd M) ∧ ∀ e, e ∈ l ↔ ((0 ≤ e ∧ e < M 2 0) ∧ M 9 e = 0)
theorem ahd_irr (M : MS) (e : Int) : ¬ ahd M e e := by intro h; rcases h with h | h <;> omega
theorem ahd_tot (M : MS) {e o : Int} (h : e ≠ o) : ahd M e o ∨ ahd M o e := by
  rcases Int.lt_trichotomy (tmOf M e) (tmOf M o) with g | g | g <;> rcases Int.lt_trichotomy e o with g2 | g2 | g2 <;> simp only [ahd] <;> omega
theorem ahd_asy (M : MS) {e o : Int} (h : ahd M e o) : ¬ ahd M o e := by
  simp only [ahd] at *
  omega
theorem ahd_tr (M : MS) {e o u : Int} (h : ahd M e o) (h2 : ahd M o u) : ahd M e u := by
  simp only [ahd] at *
  omega
theorem Ord.nodup {M : MS} {l : List Int} (h : Ord M l) : l.Nodup := h.1.imp (fun {a b} (hab : ahd M a b) (e : a = b) => ahd_irr M b (e ▸ hab))
def liveL (M : MS) (n : Nat) : List Int := ((List.range n).map (fun i : Nat => (i : Int))).filter (fun e => decide (M 9 e = 0))
theorem Ord.perm {M : MS} {l : List Int} (h : Ord M l) (hn : 0 ≤ M 2 0) : l.Perm (liveL M (M 2 0).toNat) := by
  refine (List.perm_ext_iff_of_nodup h.nodup ?_).mpr (fun e => ?_)
  · refine List.Pairwise.filter _ (List.Pairwise.map _ (fun a b (hab : a < b) => ?_) List.pairwise_lt_range)
    omega
  · rw [h.2]
    simp only [liveL, List.mem_filter, List.mem_map, List.mem_range, decide_eq_true_eq]
    constructor
    · rintro ⟨⟨h1, h2⟩, h3⟩
      exact ⟨⟨e.toNat, by omega, by omega⟩, h3⟩
    · rintro ⟨⟨i, h1, rfl⟩, h3⟩
      exact ⟨⟨by omega, by omega⟩, h3⟩
theorem Ord.len {M : MS} {l : List Int} (h : Ord M l) (hn : 0 ≤ M 2 0) : (l.length : Int) ≤ M 2 0 := by
  rw [(h.perm hn).length_eq]
  have h1 : (liveL M (M 2 0).toNat).length ≤ ((List.range (M 2 0).toNat).map (fun i : Nat => (i : Int))).length := List.length_filter_le _ _
  rw [List.length_map, List.length_range] at h1
  omega
def prof (M : MS) (l : List Int) (node : Int) : List Int := l.filter (fun e => decide (M 27 (ndOf M e) = M 27 node))
def PR (M : MS) (node : Int) (p : List Int) : Prop := p.Pairwise (ahd M) ∧ ∀ e, e ∈ p ↔ ((0 ≤ e ∧ e < M 2 0) ∧ blg M e node)
theorem Ord.pr {M : MS} {l : List Int} (h : Ord M l) (node : Int) : PR M node (prof M l node) := by
  refine ⟨h.1.filter _, fun e => ?_⟩
  simp only [prof, List.mem_filter, decide_eq_true_eq]
  rw [h.2]
  exact and_assoc
theorem bhd_spec (M : MS) (node its : Int) : ∀ i : Nat, (bhdF M node its i = -1 ∧ ∀ e : Int, 0 ≤ e → e < i → ¬ (blg M e node ∧ (its = -1 ∨ ahd M its e))) ∨
    ((0 ≤ bhdF M node its i ∧ bhdF M node its i < i) ∧ (blg M (bhdF M node its i) node ∧ (its = -1 ∨ ahd M its (bhdF M node its i))) ∧ ∀ e : Int, 0 ≤ e → e < i → (blg M e node ∧ (its = -1 ∨ ahd M its e)) → e = bhdF M node its i ∨ ahd M (bhdF M node its i) e) := by
  intro i
  induction i with
  | zero => exact Or.inl ⟨rfl, fun e h0 h1 => by omega⟩
  | succ i ih =>
    by_cases hc : (blg M i node ∧ (its = -1 ∨ ahd M its i)) ∧ (bhdF M node its i = -1 ∨ ahd M i (bhdF M node its i))
    · have e1 : bhdF M node its (i + 1) = i := by simp only [bhdF]; rw [if_pos hc]
      rw [e1]
      refine Or.inr ⟨⟨by omega, by omega⟩, hc.1, fun e h0 h1 he => ?_⟩
      by_cases e2 : e = i
      · exact Or.inl e2
      · right
        rcases ih with ⟨-, q⟩ | ⟨q1, q2, q3⟩
        · exact absurd he (q e h0 (by omega))
        · rcases hc.2 with g | g
          · omega
          · rcases q3 e h0 (by omega) he with h | h
            · rw [h]; exact g
            · exact ahd_tr M g h
    · have e1 : bhdF M node its (i + 1) = bhdF M node its i := by simp only [bhdF]; rw [if_neg hc]
      rw [e1]
      rcases ih with ⟨q0, q⟩ | ⟨q1, q2, q3⟩
      · refine Or.inl ⟨q0, fun e h0 h1 he => ?_⟩
        by_cases e2 : e = i
        · rw [e2] at he
          exact hc ⟨he, Or.inl q0⟩
        · exact q e h0 (by omega) he
      · refine Or.inr ⟨⟨q1.1, by omega⟩, q2, fun e h0 h1 he => ?_⟩
        by_cases e2 : e = i
        · rw [e2] at he ⊢
          by_cases e3 : (i : Int) = bhdF M node its i
          · exact Or.inl e3
          · rcases ahd_tot M e3 with h | h
            · exact absurd ⟨he, Or.inr h⟩ hc
            · exact Or.inr h
        · exact q3 e h0 (by omega) he
def at1 (p : List Int) (k : Nat) : Int := (p[k]?).getD (-1)
theorem at1_lt {p : List Int} {k : Nat} (h : k < p.length) : at1 p k = p[k] := by simp [at1, h]
theorem at1_ge {p : List Int} {k : Nat} (h : p.length ≤ k) : at1 p k = -1 := by
  have : p[k]? = none := List.getElem?_eq_none h
  simp [at1, this]
theorem PR.at_in {M : MS} {node : Int} {p : List Int} (h : PR M node p) {k : Nat} (hk : k < p.length) : (0 ≤ at1 p k ∧ at1 p k < M 2 0) ∧ blg M (at1 p k) node := by
  rw [at1_lt hk]
  exact (h.2 _).mp (List.getElem_mem hk)
theorem PR.at_rng {M : MS} {node : Int} {p : List Int} (h : PR M node p) (hn : 0 ≤ M 2 0) (k : Nat) : -1 ≤ at1 p k ∧ at1 p k < M 2 0 ∧ (at1 p k = -1 ↔ p.length ≤ k) := by
  by_cases hk : k < p.length
  · have := (h.at_in hk).1
    exact ⟨by omega, by omega, by omega, by omega⟩
  · rw [at1_ge (by omega)]
    exact ⟨by omega, by omega, fun _ => by omega, fun _ => rfl⟩
theorem pw_get {R : Int → Int → Prop} {p : List Int} (h : p.Pairwise R) {i j : Nat} (hi : i < j) (hj : j < p.length) : R (p[i]'(by omega)) p[j] := List.pairwise_iff_getElem.mp h i j (by omega) hj hi
theorem PR.next {M : MS} {node : Int} {p : List Int} (h : PR M node p) (hn : 0 ≤ M 2 0) {its : Int} {k : Nat} (hk : (its = -1 ∧ k = 0) ∨ ∃ j, k = j + 1 ∧ j < p.length ∧ its = at1 p j) : bhdF M node its (M 2 0).toNat = at1 p k := by
  have hN : (((M 2 0).toNat : Nat) : Int) = M 2 0 := Int.toNat_of_nonneg hn
  -- an event of p fits iff it stands at k or behind
  have hfit : ∀ i, (hi : i < p.length) → ((its = -1 ∨ ahd M its p[i]) ↔ k ≤ i) := by
    intro i hi
    rcases hk with ⟨e1, e2⟩ | ⟨j, e1, e2, e3⟩
    · exact ⟨fun _ => by omega, fun _ => Or.inl e1⟩
    · rw [at1_lt e2] at e3
      have hpos : 0 ≤ its := by rw [e3]; exact ((h.2 _).mp (List.getElem_mem e2)).1.1
      constructor
      · rintro (q | q)
        · omega
        · by_cases hij : i = j
          · subst hij; rw [e3] at q; exact absurd q (ahd_irr M _)
          · by_cases hlt : i < j
            · have := pw_get h.1 hlt e2
              rw [e3] at q
              exact absurd q (ahd_asy M this)
            · omega
      · intro q
        right
        rw [e3]
        exact pw_get h.1 (by omega) hi
  rcases bhd_spec M node its (M 2 0).toNat with ⟨q0, q⟩ | ⟨q1, q2, q3⟩
  · rw [q0]
    by_cases hkl : k < p.length
    · have h1 := (h.2 _).mp (List.getElem_mem hkl)
      exact absurd ⟨h1.2, (hfit k hkl).mpr (Nat.le_refl k)⟩ (q _ h1.1.1 (by omega))
    · rw [at1_ge (by omega)]
  · have hm : bhdF M node its (M 2 0).toNat ∈ p := (h.2 _).mpr ⟨⟨q1.1, by omega⟩, q2.1⟩
    obtain ⟨i, hi, he⟩ := List.mem_iff_getElem.mp hm
    rw [← he] at q2 q3 ⊢
    have hki := (hfit i hi).mp q2.2
    rw [at1_lt (show k < p.length by omega)]
    by_cases hik : i = k
    · subst hik; rfl
    · have h1 := (h.2 _).mp (List.getElem_mem (show k < p.length by omega))
      have h2 := pw_get h.1 (show k < i by omega) hi
      rcases q3 p[k] h1.1.1 (by omega) ⟨h1.2, (hfit k (by omega)).mpr (Nat.le_refl k)⟩ with g | g
      · exact absurd h2 (g ▸ ahd_irr M _)
      · exact absurd g (ahd_asy M h2)
-- sessions
abbrev Seg : Type := Int × Int × Int × Int
def sgGo (M : MS) : Int → Int → Int → Int → List Int → List Seg
  | f, la, sz, c, [] => [(f, la, sz, c)]
  | f, la, sz, c, x :: r => if cts M la x c then (f, la, sz, c) :: sgGo M x x 1 (M 7 x) r else sgGo M f x (sz + 1) (if c = -1 then M 7 x else c) r
def sgs (M : MS) : List Int → List Seg
  | [] => []
  | x :: r => sgGo M x x 1 (M 7 x) r
theorem drop_at {p : List Int} {k : Nat} (h : k < p.length) : p.drop k = at1 p k :: p.drop (k + 1) := by
  rw [at1_lt h]
  exact List.drop_eq_getElem_cons h
theorem sgGo_end (M : MS) (f la sz c : Int) {p : List Int} {j : Nat} (h : at1 p j = -1 ∧ p.length ≤ j ∨ (j < p.length ∧ cts M la (at1 p j) c)) : sgGo M f la sz c (p.drop j) = (f, la, sz, c) :: sgs M (p.drop j) := by
  rcases h with ⟨-, h⟩ | ⟨h, hc⟩
  · rw [List.drop_eq_nil_of_le h]; rfl
  · rw [drop_at h]
    simp only [sgGo, sgs]
    rw [if_pos hc]
theorem sgGo_on (M : MS) (f la sz c : Int) {p : List Int} {j : Nat} (h : j < p.length) (hc : ¬ cts M la (at1 p j) c) : sgGo M f la sz c (p.drop j) = sgGo M f (at1 p j) (sz + 1) (if c = -1 then M 7 (at1 p j) else c) (p.drop (j + 1)) := by
  rw [drop_at h]
  simp only [sgGo]
  rw [if_neg hc]
theorem sgs_at (M : MS) {p : List Int} {k : Nat} (h : k < p.length) : sgs M (p.drop k) = sgGo M (at1 p k) (at1 p k) 1 (M 7 (at1 p k)) (p.drop (k + 1)) := by
  rw [drop_at h]; rfl
def sgV (M : MS) (s : Seg) (what : Int) : Int := if what = 0 then tmOf M s.1 else if what = 1 then tmOf M s.2.1 - tmOf M s.1 else if what = 2 then s.2.2.1 else s.2.2.2
def gsV (M : MS) (p : List Int) (session what : Int) : Int :=
  if what = 4 then ((sgs M p).length : Int) else if 0 ≤ session then (match (sgs M p)[session.toNat]? with | some s => sgV M s what | none => -2) else -2
theorem gsV_all (M : MS) (p : List Int) (session : Int) : gsV M p session 4 = ((sgs M p).length : Int) := rfl
theorem gsV_some {M : MS} {p : List Int} {session what : Int} {s : Seg} {done rest : List Seg} (h : sgs M p = done ++ s :: rest) (hs : session = (done.length : Int)) (hw : what < 4) : gsV M p session what = sgV M s what := by
  unfold gsV
  rw [if_neg (by omega), if_pos (by omega), h, hs]
  have e : (((done.length : Nat) : Int)).toNat = done.length := Int.toNat_natCast _
  rw [e, List.getElem?_append_right (Nat.le_refl _), Nat.sub_self]
  rfl
theorem gsV_none {M : MS} {p : List Int} {session what : Int} (hs : session < 0 ∨ ((sgs M p).length : Int) ≤ session) (hw : what < 4) : gsV M p session what = -2 := by
  unfold gsV
  rw [if_neg (by omega)]
  by_cases h : 0 ≤ session
  · rw [if_pos h]
    have : (sgs M p)[session.toNat]? = none := List.getElem?_eq_none (by omega)
    rw [this]
  · rw [if_neg h]

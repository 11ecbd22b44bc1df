/-! What has changed at most: fields of numbers, fields of references, arrays of numbers, of references -/
def nA : Nat → Prop := fun _ => False
def Fr (fi fp : List Nat) (ai ar : Nat → Prop) (h h' : HS) : Prop := kD h' = kD h ∧ ln h' = ln h ∧ (∀ f, f ∉ fi → fI h' f = fI h f) ∧ (∀ f, f ∉ fp → fP h' f = fP h f) ∧ (∀ a, ¬ ai a → aI h' a = aI h a) ∧ ∀ a, ¬ ar a → aR h' a = aR h a
section FrRows
variable {fi fp : List Nat} {ai ar : Nat → Prop} {h h1 h2 : HS} {A : AD} {M : MS}
theorem Fr.rf (h : HS) : Fr fi fp ai ar h h := ⟨rfl, rfl, fun _ _ => rfl, fun _ _ => rfl, fun _ _ => rfl, fun _ _ => rfl⟩
theorem Fr.tr (a : Fr fi fp ai ar h h1) (b : Fr fi fp ai ar h1 h2) : Fr fi fp ai ar h h2 := ⟨b.1.trans a.1, b.2.1.trans a.2.1, fun f q => (b.2.2.1 f q).trans (a.2.2.1 f q), fun f q => (b.2.2.2.1 f q).trans (a.2.2.2.1 f q), fun f q => (b.2.2.2.2.1 f q).trans (a.2.2.2.2.1 f q), fun f q => (b.2.2.2.2.2 f q).trans (a.2.2.2.2.2 f q)⟩
theorem Fr.up {fi' fp' : List Nat} {ai' ar' : Nat → Prop} (a : Fr fi fp ai ar h h1) (e1 : ∀ x ∈ fi, x ∈ fi') (e2 : ∀ x ∈ fp, x ∈ fp') (e3 : ∀ x, ai x → ai' x) (e4 : ∀ x, ar x → ar' x) : Fr fi' fp' ai' ar' h h1 := ⟨a.1, a.2.1, fun f q => a.2.2.1 f (fun q' => q (e1 f q')), fun f q => a.2.2.2.1 f (fun q' => q (e2 f q')), fun f q => a.2.2.2.2.1 f (fun q' => q (e3 f q')), fun f q => a.2.2.2.2.2 f (fun q' => q (e4 f q'))⟩
theorem Fr.sI {f a : Nat} {z : Int} (q : f ∈ fi) : Fr fi fp ai ar h (setI h f a z) := ⟨rfl, rfl, fun f' q' => fI_set_ne (fun e => q' (e ▸ q)), fun _ _ => rfl, fun _ _ => rfl, fun _ _ => rfl⟩
theorem Fr.sP {f a : Nat} {z : Option Nat} (q : f ∈ fp) : Fr fi fp ai ar h (setP h f a z) := ⟨rfl, rfl, fun _ _ => rfl, fun f' q' => fP_set_ne (fun e => q' (e ▸ q)), fun _ _ => rfl, fun _ _ => rfl⟩
theorem aI_set_ne {a x : Nat} {j z : Int} (hx : x ≠ a) : aI (setA h a j z) x = aI h x := by
  funext i
  rw [aI_setA, if_neg (fun q => hx q.1)]
theorem aR_set_ne {a x : Nat} {j : Int} {z : Option Nat} (hx : x ≠ a) : aR (setR h a j z) x = aR h x := by
  funext i
  rw [aR_setR, if_neg (fun q => hx q.1)]
theorem Fr.sA {a : Nat} {j z : Int} (q : ai a) : Fr fi fp ai ar h (setA h a j z) := ⟨rfl, rfl, fun _ _ => rfl, fun _ _ => rfl, fun x q' => aI_set_ne (fun e => q' (e ▸ q)), fun _ _ => rfl⟩
theorem Fr.sR {a : Nat} {j : Int} {z : Option Nat} (q : ar a) : Fr fi fp ai ar h (setR h a j z) := ⟨rfl, rfl, fun _ _ => rfl, fun _ _ => rfl, fun _ _ => rfl, fun x q' => aR_set_ne (fun e => q' (e ▸ q))⟩
theorem OnlyN.fr (a : OnlyN h h1) (q1 : 18 ∈ fp) (q2 : 20 ∈ fp) (q3 : 21 ∈ fp) : Fr fi fp ai ar h h1 := ⟨a.1, a.2.2.1, fun f _ => by rw [a.2.1], fun f q => a.2.2.2.2.2 f (fun e => q (e ▸ q1)) (fun e => q (e ▸ q2)) (fun e => q (e ▸ q3)), fun x _ => by rw [a.2.2.2.1], fun x _ => by rw [a.2.2.2.2.1]⟩
theorem OnlyL.fr (a : OnlyL h h1) (q1 : 42 ∈ fp) : Fr fi fp ai ar h h1 := ⟨a.1, a.2.2.1, fun f _ => by rw [a.2.1], fun f q => a.2.2.2.2.2 f (fun e => q (e ▸ q1)), fun x _ => by rw [a.2.2.2.1], fun x _ => by rw [a.2.2.2.2.1]⟩
theorem OnlyT.fr (a : OnlyT h h1) (q : ∀ f, 50 ≤ f → f ≤ 54 → f ∈ fi) : Fr fi fp ai ar h h1 := ⟨a.1, a.2.1, fun f q' => a.2.2.2.2.2 f (by
  rcases Nat.lt_or_ge f 50 with g | g
  · exact Or.inl g
  · rcases Nat.lt_or_ge 54 f with g2 | g2
    · exact Or.inr g2
    · exact absurd (q f g g2) q'), fun f _ => by rw [a.2.2.2.2.1], fun x _ => by rw [a.2.2.1], fun x _ => by rw [a.2.2.2.1]⟩
theorem Fr.i (a : Fr fi fp ai ar h h1) {f : Nat} (q : f ∉ fi) (x : Nat) : fI h1 f x = fI h f x := by rw [a.2.2.1 f q]
theorem Fr.p (a : Fr fi fp ai ar h h1) {f : Nat} (q : f ∉ fp) (x : Nat) : fP h1 f x = fP h f x := by rw [a.2.2.2.1 f q]
theorem Fr.k (a : Fr fi fp ai ar h h1) (x : Nat) : kD h1 x = kD h x := by rw [a.1]
theorem Fr.sp (a : Fr fi fp ai ar h h1) (s : SP h A M) (hi : ∀ f ∈ fi, f ∉ [10, 13, 14, 15, 16, 40, 43, 44, 45] := by decide) (hp : ∀ f ∈ fp, f ∉ [11, 12, 41] := by decide) : SP h1 A M := by
  have gi : ∀ f, f ∈ [10, 13, 14, 15, 16, 40, 43, 44, 45] → fI h1 f = fI h f := fun f q => a.2.2.1 f (fun q' => hi f q' q)
  have gp : ∀ f, f ∈ [11, 12, 41] → fP h1 f = fP h f := fun f q => a.2.2.2.1 f (fun q' => hp f q' q)
  exact s.cg a.1 a.2.1 (gi 10 (by decide)) (gi 13 (by decide)) (gi 14 (by decide)) (gi 15 (by decide)) (gi 16 (by decide)) (gi 40 (by decide)) (gi 43 (by decide)) (gi 44 (by decide)) (gi 45 (by decide)) (gp 11 (by decide)) (gp 12 (by decide)) (gp 41 (by decide))
theorem Fr.vo (a : Fr fi fp ai ar h h1) (v : VO h A) (hn : ¬ ar (cN A)) (hp : ∀ f ∈ fp, f ∉ [60, 61, 62, 63, 64] := by decide) : VO h1 A := by
  have gp : ∀ f, f ∈ [60, 61, 62, 63, 64] → fP h1 f = fP h f := fun f q => a.2.2.2.1 f (fun q' => hp f q' q)
  obtain ⟨v0, v60, v61, v62, v63, v64, vn, vnl, vnr, vm, vml, vh, vt, vw, vwl⟩ := v
  exact ⟨by rw [a.1]; exact v0, by rw [gp 60 (by decide)]; exact v60, by rw [gp 61 (by decide)]; exact v61, by rw [gp 62 (by decide)]; exact v62, by rw [gp 63 (by decide)]; exact v63, by rw [gp 64 (by decide)]; exact v64, by rw [a.1]; exact vn, by rw [a.2.1]; exact vnl, by rw [a.2.2.2.2.2 _ hn]; exact vnr, by rw [a.1]; exact vm, by rw [a.2.1]; exact vml, by rw [a.1]; exact vh, by rw [a.1]; exact vt, by rw [a.1]; exact vw, by rw [a.2.1]; exact vwl⟩
theorem Fr.lw {f : Int → Int} (a : Fr fi fp ai ar h h1) (v : LW h A f) (hp : 42 ∉ fp := by decide) : LW h1 A f := v.cg (a.2.2.2.1 42 hp)
theorem Fr.lg (a : Fr fi fp ai ar h h1) {l : List Int} {p q : Option Nat} (hh : LG h A p l q) (hp : 18 ∉ fp := by decide) : LG h1 A p l q := LG_cong (fun e _ => by rw [a.2.2.2.1 18 hp]) hh
theorem Fr.ch (a : Fr fi fp ai ar h h1) {l : List Int} (hh : ChL h A l) (hp : 18 ∉ fp := by decide) (hp2 : 20 ∉ fp := by decide) (hp3 : 21 ∉ fp := by decide) : ChL h1 A l := ⟨by rw [a.2.2.2.1 20 hp2]; exact a.lg hh.1 hp, by rw [a.2.2.2.1 21 hp3]; exact hh.2⟩
theorem Fr.cls {ow : Nat → Int} {r : Int} (a : Fr fi fp ai ar h h1) {l : List (Int × Int)} {o : Option Nat} (hh : CLs h ow r o l) (i0 : 0 ∉ fi := by decide) (i1 : 1 ∉ fi := by decide) (p2 : 2 ∉ fp := by decide) : CLs h1 ow r o l := CLs.cg a.1 (a.2.2.1 0 i0) (a.2.2.1 1 i1) (a.2.2.2.1 2 p2) hh
theorem Fr.cns {ow : Nat → Int} (a : Fr fi fp ai ar h h1) (hh : CNs h A M ow) (hl : ∀ k, 0 ≤ k → k < 20 → ¬ ar (lc A k)) (i0 : 0 ∉ fi := by decide) (i1 : 1 ∉ fi := by decide) (p2 : 2 ∉ fp := by decide) : CNs h1 A M ow := fun k p h0 h1 h2 h3 => by
  rw [a.2.2.2.2.2 _ (hl k h0 h1)]
  exact a.cls (hh k p h0 h1 h2 h3) i0 i1 p2
theorem Fr.grp (a : Fr fi fp ai ar h h1) {g : Int} (hg : grpOK h A M g) (hi : ∀ f ∈ fi, f ∉ [30, 31, 32, 33, 34] := by decide) : grpOK h1 A M g := by
  have gi : ∀ f, f ∈ [30, 31, 32, 33, 34] → fI h1 f = fI h f := fun f q => a.2.2.1 f (fun q' => hi f q' q)
  obtain ⟨g0, g1, g2, g3, g4, g5⟩ := hg
  exact ⟨by rw [a.1]; exact g0, by rw [gi 30 (by decide)]; exact g1, by rw [gi 31 (by decide)]; exact g2, by rw [gi 32 (by decide)]; exact g3, by rw [gi 33 (by decide)]; exact g4, by rw [gi 34 (by decide)]; exact g5⟩
theorem Fr.gl0 (a : Fr fi fp ai ar h h1) (hi : ∀ f ∈ fi, f ∉ [30, 31, 32, 33, 34]) (p36 : 36 ∉ fp) : ∀ {n : Nat} {g : Int} {u : Option Nat}, GL h A M n g u → GL h1 A M n g u := by
  intro n
  induction n with
  | zero => intro g u hh; exact hh
  | succ n ih =>
    rintro g u ⟨e1, e2, e3⟩
    refine ⟨e1, a.grp e2 hi, ?_⟩
    rw [a.2.2.2.1 36 p36]
    exact ih e3
theorem Fr.gl (a : Fr fi fp ai ar h h1) {n : Nat} {g : Int} {u : Option Nat} (hh : GL h A M n g u) (hi : ∀ f ∈ fi, f ∉ [30, 31, 32, 33, 34] := by decide) (p36 : 36 ∉ fp := by decide) : GL h1 A M n g u := a.gl0 hi p36 hh
end FrRows
/-- a node's rows of changes are its own -/
def LcI (A : AD) : Prop := ∀ k j, 0 ≤ k → k < 20 → 0 ≤ j → j < 20 → lc A k = lc A j → k = j

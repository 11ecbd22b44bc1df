/-! New cells: what stood before stays; arrays are made -/
def Ex (h h' : HS) : Prop := ∀ a, kD h a ≠ 0 → kD h' a = kD h a ∧ ln h' a = ln h a ∧ (∀ f, fI h' f a = fI h f a) ∧ (∀ f, fP h' f a = fP h f a) ∧ aI h' a = aI h a ∧ aR h' a = aR h a
theorem Ex.rf (h : HS) : Ex h h := fun _ _ => ⟨rfl, rfl, fun _ => rfl, fun _ => rfl, rfl, rfl⟩
theorem Ex.tr {h h1 h2 : HS} (a : Ex h h1) (b : Ex h1 h2) : Ex h h2 := fun x hx => by
  obtain ⟨a1, a2, a3, a4, a5, a6⟩ := a x hx
  obtain ⟨b1, b2, b3, b4, b5, b6⟩ := b x (by rw [a1]; exact hx)
  exact ⟨b1.trans a1, b2.trans a2, fun f => (b3 f).trans (a3 f), fun f => (b4 f).trans (a4 f), b5.trans a5, b6.trans a6⟩
theorem Ex.newO {h : HS} {kd q : Nat} (hq : kD h q = 0) : Ex h (newO h kd q) := fun x hx => by
  have hne : x ≠ q := fun e => hx (by rw [e]; exact hq)
  refine ⟨if_neg hne, rfl, fun f => if_neg hne, fun f => if_neg hne, rfl, rfl⟩
theorem Ex.newA {h : HS} {kd q n : Nat} (hq : kD h q = 0) : Ex h (newA h kd q n) := fun x hx => by
  have hne : x ≠ q := fun e => hx (by rw [e]; exact hq)
  refine ⟨if_neg hne, if_neg hne, fun f => rfl, fun f => rfl, funext fun j => if_neg hne, funext fun j => if_neg hne⟩
theorem Ex.sI {h h1 : HS} {f a : Nat} {z : Int} (e : Ex h h1) (ha : kD h a = 0) : Ex h (setI h1 f a z) := fun x hx => by
  obtain ⟨a1, a2, a3, a4, a5, a6⟩ := e x hx
  have hne : x ≠ a := fun q => hx (by rw [q]; exact ha)
  exact ⟨a1, a2, fun g => (by rw [fI_setI, if_neg (fun q => hne q.2)]; exact a3 g), a4, a5, a6⟩
theorem Ex.sP {h h1 : HS} {f a : Nat} {z : Option Nat} (e : Ex h h1) (ha : kD h a = 0) : Ex h (setP h1 f a z) := fun x hx => by
  obtain ⟨a1, a2, a3, a4, a5, a6⟩ := e x hx
  have hne : x ≠ a := fun q => hx (by rw [q]; exact ha)
  exact ⟨a1, a2, a3, fun g => (by rw [fP_setP, if_neg (fun q => hne q.2)]; exact a4 g), a5, a6⟩
theorem Ex.sp {h h' : HS} {A : AD} {M : MS} (e : Ex h h') (s : SP h A M) : SP h' A M := by
  refine ⟨s.mi, fun k h0 h1 => ?_, fun d h0 h1 => ?_, fun u h0 h1 => ?_⟩
  · obtain ⟨n1, n2, n3, n4, n5⟩ := s.no k h0 h1
    obtain ⟨a1, a2, a3, a4, a5, a6⟩ := e (nd A k) (by omega)
    obtain ⟨b1, b2, b3, b4, b5, b6⟩ := e (lc A k) (by omega)
    exact ⟨by rw [a1]; exact n1, by rw [a3]; exact n2, by rw [a4]; exact n3, by rw [b1]; exact n4, by rw [b2]; exact n5⟩
  · obtain ⟨n1, -⟩ := s.no (10 + d) (by omega) (by omega)
    obtain ⟨a1, a2, a3, a4, a5, a6⟩ := e (nd A (10 + d)) (by omega)
    have := s.dv d h0 h1
    simp only [DvOK, a3]
    exact this
  · have hv := s.ve u h0 h1
    obtain ⟨a1, a2, a3, a4, a5, a6⟩ := e (ev A u) (by rw [hv.1]; decide)
    simp only [EvOK, a1, a3, a4]
    exact hv
theorem Ex.vo {h h' : HS} {A : AD} (e : Ex h h') (v : VO h A) : VO h' A := by
  obtain ⟨v0, v60, v61, v62, v63, v64, vn, vnl, vnr, vm, vml, vh, vt, vw, vwl⟩ := v
  obtain ⟨a1, a2, a3, a4, a5, a6⟩ := e (cO A) (by omega)
  obtain ⟨b1, b2, b3, b4, b5, b6⟩ := e (cN A) (by omega)
  obtain ⟨c1, c2, -⟩ := e (cM A) (by omega)
  obtain ⟨d1, d2, -⟩ := e (cH A) (by omega)
  obtain ⟨t1, t2, -⟩ := e (cT A) (by omega)
  obtain ⟨w1, w2, -⟩ := e (cW A) (by omega)
  exact ⟨by rw [a1]; exact v0, by rw [a4]; exact v60, by rw [a4]; exact v61, by rw [a4]; exact v62, by rw [a4]; exact v63, by rw [a4]; exact v64, by rw [b1]; exact vn, by rw [b2]; exact vnl, by rw [b6]; exact vnr, by rw [c1]; exact vm, by rw [c2]; exact vml, by rw [d1]; exact vh, by rw [t1]; exact vt, by rw [w1]; exact vw, by rw [w2]; exact vwl⟩
theorem Ex.lw {h h' : HS} {A : AD} {M : MS} {f : Int → Int} (e : Ex h h') (s : SP h A M) (v : LW h A f) : LW h' A f := fun k h0 h1 => by
  obtain ⟨n1, -⟩ := s.no k h0 h1
  rw [(e (nd A k) (by omega)).2.2.2.1]
  exact v k h0 h1
theorem Ex.lg {h h' : HS} {A : AD} {M : MS} (e : Ex h h') (s : SP h A M) {l : List Int} (hl : ∀ u ∈ l, 0 ≤ u ∧ u < M 2 0) {p q : Option Nat} (hh : LG h A p l q) : LG h' A p l q := LG_cong (fun u hu => (e (ev A u) (by rw [(s.ve u (hl u hu).1 (hl u hu).2).1]; decide)).2.2.2.1 18) hh
theorem Ex.ch {h h' : HS} {A : AD} {M : MS} (e : Ex h h') (s : SP h A M) (hH : kD h (cH A) = 3) {l : List Int} (hl : ∀ u ∈ l, 0 ≤ u ∧ u < M 2 0) (hh : ChL h A l) : ChL h' A l := by
  obtain ⟨a1, a2, a3, a4, -⟩ := e (cH A) (by omega)
  exact ⟨by rw [a4]; exact e.lg s hl hh.1, by rw [a4]; exact hh.2⟩
theorem Ex.cls {h h' : HS} {ow : Nat → Int} {r : Int} (e : Ex h h') : ∀ {l : List (Int × Int)} {o : Option Nat}, CLs h ow r o l → CLs h' ow r o l := by
  intro l
  induction l with
  | nil => intro o hh; exact hh
  | cons v t ih =>
    rintro o ⟨a, h1, h2, h3, h4, h5, h6⟩
    obtain ⟨a1, a2, a3, a4, -⟩ := e a (by omega)
    exact ⟨a, h1, by rw [a1]; exact h2, by rw [a3]; exact h3, by rw [a3]; exact h4, h5, by rw [a4]; exact ih h6⟩
theorem Ex.cns {h h' : HS} {A : AD} {M : MS} {ow : Nat → Int} (e : Ex h h') (s : SP h A M) (hh : CNs h A M ow) : CNs h' A M ow := fun k p h0 h1 h2 h3 => by
  obtain ⟨n1, n2, n3, n4, n5⟩ := s.no k h0 h1
  rw [(e (lc A k) (by omega)).2.2.2.2.2]
  exact e.cls (hh k p h0 h1 h2 h3)
theorem Ex.grp {h h' : HS} {A : AD} {M : MS} {g : Int} (e : Ex h h') (hg : grpOK h A M g) : grpOK h' A M g := by
  obtain ⟨g0, g1, g2, g3, g4, g5⟩ := hg
  obtain ⟨a1, a2, a3, -⟩ := e (gp A g) (by omega)
  exact ⟨by rw [a1]; exact g0, by rw [a3]; exact g1, by rw [a3]; exact g2, by rw [a3]; exact g3, by rw [a3]; exact g4, by rw [a3]; exact g5⟩
theorem Ex.gl {h h' : HS} {A : AD} {M : MS} (e : Ex h h') : ∀ {n : Nat} {g : Int} {u : Option Nat}, GL h A M n g u → GL h' A M n g u := by
  intro n
  induction n with
  | zero => intro g u hh; exact hh
  | succ n ih =>
    rintro g u ⟨e1, e2, e3⟩
    refine ⟨e1, e.grp e2, ?_⟩
    have := e2.1
    rw [(e (gp A g) (by omega)).2.2.2.1]
    exact ih e3
theorem ra_eq {U : State} {ty : FieldType} {c : ClassId} (h : va_RA U c ty) : U.vm.findClass ("[" ++ ty.toString) = some c := by
  cases ty with
  | object C =>
    obtain ⟨_, _, _, _, _, e⟩ := h
    exact e
  | _ => exact h
theorem ca_eq {D : va_G} {cl : List vw_C} {tys : List (ClassId × FieldType)} {cA c0 : ClassId} {ty : FieldType} {U : State} (hK : va_K D cl (tys ++ [(cA, ty)]) U) (t0 : Nat) (h0 : tys[t0]? = some (c0, ty)) : cA = c0 := by
  have h1 := ra_eq (hK.2 tys.length (cA, ty) (by simp)).2
  have h2 := ra_eq (hK.2 t0 (c0, ty) (by rw [List.getElem?_append_left (List.getElem?_eq_some_iff.mp h0).1]; exact h0)).2
  exact Option.some.inj (h1.symm.trans h2)
theorem nneg {z : Int} {N : Nat} (hz : z = N) (hN : N ≤ 100000) : ¬ Int32.ofInt z < 0 := fun h => by
  have := (i32_lt (a := z) (b := 0) (by omega) (by omega)).mp h
  omega
theorem nclamp {z : Int} {N : Nat} (hz : z = N) (hN : N ≤ 100000) : (Int32.ofInt z).toNatClampNeg = N := by
  rw [i32_clamp (by omega) (by omega)]
  omega
section NewRows
variable {φ : Fx} {k n pc : Nat} {L : List (Nat × Value)} {st : List Value} {cc : ByteArray} {own : String} {ret : Option FieldType} {cy : CY} {h : HS} {R0 : Room}
theorem h_newaI {N : Nat} {z : Int} (C : Cx φ cc own ret cy) (hR0 : ROf φ = R0) (hz : z = N) (hN : N ≤ 100000) (hcell : k + 1 ≤ R0.cells ∧ n + N ≤ R0.slots) (hd : decode cc pc = .ok (.newarray .int, 2)) (kk : ∀ q : Nat, kD h q = 0 → X φ (RepH cy (newA h 8 q N)) (k + 1) (n + N) (pc + 2) L (vr (some q) :: st)) : X φ (RepH cy h) k n pc L (vi z :: st) := by
  obtain ⟨p, l, e, R, s, m, args, below, meth, c, A, nL, D, Q⟩ := φ
  obtain ⟨hx, hb, hr, hml, hown, hts, hlocks, hK, hA, -⟩ := C
  have hR : R = R0 := hR0
  subst hR
  intro H locs ws cells slots ls c1 c2 hI hP hD hS hl
  refine va_newa (atype := .int) (ty := .int) (N' := N) (a0 := (N, .inl (fun _ => 0))) hx hb (hts _ u0_4) rfl hK hP hD hS hA (fun cA => rfl) (nneg hz hN) (nclamp hz hN) (by show N * 4 ≤ _; omega) (by omega) (by omega) hd (fun q cA H1 hK1 hP1 hD1 hS1 => ?_)
  have hc := ca_eq hK1 0 rfl
  subst hc
  obtain ⟨g1, g2⟩ := hI.push (h' := newA h 8 q N) hD1 (by simp [kD, newA]) (by simp [cellOf, newA, kD, ln, aI]; try rfl) (fun x hx => by simp [kD, newA, hx]) (fun x hx => cell_newA_ne hx)
  exact kk q g2 H1 locs _ _ _ ls (Nat.add_le_add_right c1 1) (Nat.add_le_add_right c2 N) g1 hP1 hD1 hS1 hl
theorem h_newaZ {N : Nat} {z : Int} (C : Cx φ cc own ret cy) (hR0 : ROf φ = R0) (hz : z = N) (hN : N ≤ 100000) (hcell : k + 1 ≤ R0.cells ∧ n + N ≤ R0.slots) (hd : decode cc pc = .ok (.newarray .boolean, 2)) (kk : ∀ q : Nat, kD h q = 0 → X φ (RepH cy (newA h 9 q N)) (k + 1) (n + N) (pc + 2) L (vr (some q) :: st)) : X φ (RepH cy h) k n pc L (vi z :: st) := by
  obtain ⟨p, l, e, R, s, m, args, below, meth, c, A, nL, D, Q⟩ := φ
  obtain ⟨hx, hb, hr, hml, hown, hts, hlocks, hK, hA, -⟩ := C
  have hR : R = R0 := hR0
  subst hR
  intro H locs ws cells slots ls c1 c2 hI hP hD hS hl
  refine va_newa (atype := .boolean) (ty := .boolean) (N' := N) (a0 := (N, .inl (fun _ => 0))) hx hb (hts _ u0_17) rfl hK hP hD hS hA (fun cA => rfl) (nneg hz hN) (nclamp hz hN) (by show N * 1 ≤ _; omega) (by omega) (by omega) hd (fun q cA H1 hK1 hP1 hD1 hS1 => ?_)
  have hc := ca_eq hK1 1 rfl
  subst hc
  obtain ⟨g1, g2⟩ := hI.push (h' := newA h 9 q N) hD1 (by simp [kD, newA]) (by simp [cellOf, newA, kD, ln, aI]; try rfl) (fun x hx => by simp [kD, newA, hx]) (fun x hx => cell_newA_ne hx)
  exact kk q g2 H1 locs _ _ _ ls (Nat.add_le_add_right c1 1) (Nat.add_le_add_right c2 N) g1 hP1 hD1 hS1 hl
theorem h_newaC {N idx : Nat} {z : Int} (C : Cx φ cc own ret cy) (hR0 : ROf φ = R0) (hcl : Cond.classLink own idx "VisitorLoom$Change" ∈ wsL_law) (hz : z = N) (hN : N ≤ 100000) (hcell : k + 1 ≤ R0.cells ∧ n + N ≤ R0.slots) (hd : decode cc pc = .ok (.anewarray idx, 3)) (kk : ∀ q : Nat, kD h q = 0 → X φ (RepH cy (newA h 10 q N)) (k + 1) (n + N) (pc + 3) L (vr (some q) :: st)) : X φ (RepH cy h) k n pc L (vi z :: st) := by
  obtain ⟨p, l, e, R, s, m, args, below, meth, c, A, nL, D, Q⟩ := φ
  obtain ⟨hx, hb, hr, hml, hown, hts, hlocks, hK, hA, hstk, hE⟩ := C
  have hR : R = R0 := hR0
  subst hR
  intro H locs ws cells slots ls c1 c2 hI hP hD hS hl
  refine va_newq (own := own) (N' := N) hx hb hown (hts _ hcl) hE.2.2.2.1 hK hP hD hS hA (nneg hz hN) (nclamp hz hN) (by omega) (by omega) (by omega) hd (fun q cA H1 hK1 hP1 hD1 hS1 => ?_)
  have hc := ca_eq hK1 2 rfl
  subst hc
  obtain ⟨g1, g2⟩ := hI.push (h' := newA h 10 q N) hD1 (by simp [kD, newA]) (by simp [cellOf, newA, kD, ln, aR]; try rfl) (fun x hx => by simp [kD, newA, hx]) (fun x hx => cell_newA_ne hx)
  exact kk q g2 H1 locs _ _ _ ls (Nat.add_le_add_right c1 1) (Nat.add_le_add_right c2 N) g1 hP1 hD1 hS1 hl
theorem h_newaN {N idx : Nat} {z : Int} (C : Cx φ cc own ret cy) (hR0 : ROf φ = R0) (hcl : Cond.classLink own idx "VisitorLoom$Node" ∈ wsL_law) (hz : z = N) (hN : N ≤ 100000) (hcell : k + 1 ≤ R0.cells ∧ n + N ≤ R0.slots) (hd : decode cc pc = .ok (.anewarray idx, 3)) (kk : ∀ q : Nat, kD h q = 0 → X φ (RepH cy (newA h 11 q N)) (k + 1) (n + N) (pc + 3) L (vr (some q) :: st)) : X φ (RepH cy h) k n pc L (vi z :: st) := by
  obtain ⟨p, l, e, R, s, m, args, below, meth, c, A, nL, D, Q⟩ := φ
  obtain ⟨hx, hb, hr, hml, hown, hts, hlocks, hK, hA, hstk, hE⟩ := C
  have hR : R = R0 := hR0
  subst hR
  intro H locs ws cells slots ls c1 c2 hI hP hD hS hl
  refine va_newq (own := own) (N' := N) hx hb hown (hts _ hcl) hE.2.2.2.2.1 hK hP hD hS hA (nneg hz hN) (nclamp hz hN) (by omega) (by omega) (by omega) hd (fun q cA H1 hK1 hP1 hD1 hS1 => ?_)
  have hc := ca_eq hK1 3 rfl
  subst hc
  obtain ⟨g1, g2⟩ := hI.push (h' := newA h 11 q N) hD1 (by simp [kD, newA]) (by simp [cellOf, newA, kD, ln, aR]; try rfl) (fun x hx => by simp [kD, newA, hx]) (fun x hx => cell_newA_ne hx)
  exact kk q g2 H1 locs _ _ _ ls (Nat.add_le_add_right c1 1) (Nat.add_le_add_right c2 N) g1 hP1 hD1 hS1 hl
end NewRows

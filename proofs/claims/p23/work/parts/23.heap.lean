/-! The class's heap: kinds by address, fields by their number (ten times the class and the slot) and address -/
abbrev HS : Type := (Nat → Nat) × (Nat → Nat → Int) × (Nat → Nat → Option Nat) × (Nat → Nat) × (Nat → Int → Int) × (Nat → Int → Option Nat)
def kD (h : HS) (a : Nat) : Nat := h.1 a
def fI (h : HS) (f a : Nat) : Int := h.2.1 f a
def fP (h : HS) (f a : Nat) : Option Nat := h.2.2.1 f a
def ln (h : HS) (a : Nat) : Nat := h.2.2.2.1 a
def aI (h : HS) (a : Nat) (j : Int) : Int := h.2.2.2.2.1 a j
def aR (h : HS) (a : Nat) (j : Int) : Option Nat := h.2.2.2.2.2 a j
def setI (h : HS) (f a : Nat) (z : Int) : HS := (h.1, fun f' a' => if f' = f ∧ a' = a then z else h.2.1 f' a', h.2.2)
def setP (h : HS) (f a : Nat) (z : Option Nat) : HS := (h.1, h.2.1, fun f' a' => if f' = f ∧ a' = a then z else h.2.2.1 f' a', h.2.2.2)
def setA (h : HS) (a : Nat) (j z : Int) : HS := (h.1, h.2.1, h.2.2.1, h.2.2.2.1, fun a' j' => if a' = a ∧ j' = j then z else h.2.2.2.2.1 a' j', h.2.2.2.2.2)
def setR (h : HS) (a : Nat) (j : Int) (z : Option Nat) : HS := (h.1, h.2.1, h.2.2.1, h.2.2.2.1, h.2.2.2.2.1, fun a' j' => if a' = a ∧ j' = j then z else h.2.2.2.2.2 a' j')
def newO (h : HS) (kd q : Nat) : HS := (fun a => if a = q then kd else h.1 a, fun f a => if a = q then 0 else h.2.1 f a, fun f a => if a = q then none else h.2.2.1 f a, h.2.2.2)
def newA (h : HS) (kd q n : Nat) : HS := (fun a => if a = q then kd else h.1 a, h.2.1, h.2.2.1, fun a => if a = q then n else h.2.2.2.1 a, fun a j => if a = q then 0 else h.2.2.2.2.1 a j, fun a j => if a = q then none else h.2.2.2.2.2 a j)
theorem fI_setI (h : HS) (f a : Nat) (z : Int) (f' a' : Nat) : fI (setI h f a z) f' a' = if f' = f ∧ a' = a then z else fI h f' a' := rfl
theorem fP_setP (h : HS) (f a : Nat) (z : Option Nat) (f' a' : Nat) : fP (setP h f a z) f' a' = if f' = f ∧ a' = a then z else fP h f' a' := rfl
theorem aI_setA (h : HS) (a : Nat) (j z : Int) (a' : Nat) (j' : Int) : aI (setA h a j z) a' j' = if a' = a ∧ j' = j then z else aI h a' j' := rfl
theorem aR_setR (h : HS) (a : Nat) (j : Int) (z : Option Nat) (a' : Nat) (j' : Int) : aR (setR h a j z) a' j' = if a' = a ∧ j' = j then z else aR h a' j' := rfl
def flds (h : HS) (ci a : Nat) : List Value := if ci = 0 then [vi (fI h 0 a), vi (fI h 1 a), vr (fP h 2 a)] else if ci = 1 then [vi (fI h 10 a), vr (fP h 11 a), vr (fP h 12 a), vi (fI h 13 a), vi (fI h 14 a), vi (fI h 15 a), vi (fI h 16 a), vi (fI h 17 a), vr (fP h 18 a)] else if ci = 2 then [vr (fP h 20 a), vr (fP h 21 a)] else if ci = 3 then [vi (fI h 30 a), vi (fI h 31 a), vi (fI h 32 a), vi (fI h 33 a), vi (fI h 34 a), vi (fI h 35 a), vr (fP h 36 a)] else if ci = 4 then [vi (fI h 40 a), vr (fP h 41 a), vr (fP h 42 a), vi (fI h 43 a), vi (fI h 44 a), vi (fI h 45 a), vi (fI h 46 a)] else if ci = 5 then [vi (fI h 50 a), vi (fI h 51 a), vi (fI h 52 a), vi (fI h 53 a), vi (fI h 54 a)] else if ci = 6 then [vr (fP h 60 a), vr (fP h 61 a), vr (fP h 62 a), vr (fP h 63 a), vr (fP h 64 a), vr (fP h 65 a), vr (fP h 66 a), vi (fI h 67 a), vi (fI h 68 a), vi (fI h 69 a), vi (fI h 70 a), vi (fI h 71 a)] else []
def cellOf (cy : CY) (h : HS) (a : Nat) : va_E :=
  if kD h a = 8 then .inl (cy.1, ln h a, .inl (fun i : Nat => Int32.ofInt (aI h a i)))
  else if kD h a = 9 then .inl (cy.2.1, ln h a, .inl (fun i : Nat => Int32.ofInt (aI h a i)))
  else if kD h a = 10 then .inl (cy.2.2.1, ln h a, .inr (.inr (.inr (.inr (fun i : Nat => aR h a i)))))
  else if kD h a = 11 then .inl (cy.2.2.2.1, ln h a, .inr (.inr (.inr (.inr (fun i : Nat => aR h a i)))))
  else .inr (kD h a - 1, flds h (kD h a - 1) a)
def RepH (cy : CY) (h : HS) (ws : va_W) : Prop := (∀ (k a : Nat) (e : va_E), ws[k]? = some (a, e) → kD h a ≠ 0 ∧ e = cellOf cy h a) ∧ ∀ a, kD h a ≠ 0 → ∃ k : Nat, ws[k]? = some (a, cellOf cy h a)
theorem cell_obj {cy : CY} {h : HS} {a ci : Nat} (hk : kD h a = ci + 1) (hc : ci < 7) : cellOf cy h a = .inr (ci, flds h ci a) := by
  unfold cellOf
  rw [hk, if_neg (by omega), if_neg (by omega), if_neg (by omega), if_neg (by omega), Nat.add_sub_cancel]
theorem RepH.upd {cy : CY} {h h' : HS} {ws : va_W} {A : Nat → Prop} {q0 a : Nat} {e0 e1 : va_E} (hR : RepH cy h ws) (hD : va_D A ws) (hq : ws[q0]? = some (a, e0)) (hk : ∀ x, kD h' x = kD h x) (hc : cellOf cy h' a = e1) (ho : ∀ x, x ≠ a → cellOf cy h' x = cellOf cy h x) : RepH cy h' (ws.set q0 (a, e1)) := by
  have hlt := (List.getElem?_eq_some_iff.mp hq).1
  refine ⟨fun k x e he => ?_, fun x hx => ?_⟩
  · by_cases hkq : k = q0
    · subst hkq
      rw [List.getElem?_set_self hlt] at he
      cases he
      exact ⟨by rw [hk]; exact (hR.1 _ _ _ hq).1, hc.symm⟩
    · rw [List.getElem?_set_ne (fun q => hkq q.symm)] at he
      have h1 := hR.1 k x e he
      have hne : x ≠ a := fun q => hkq (hD.1 k q0 _ _ he hq q)
      exact ⟨by rw [hk]; exact h1.1, by rw [ho x hne]; exact h1.2⟩
  · rw [hk] at hx
    by_cases hxa : x = a
    · subst hxa
      exact ⟨q0, by rw [List.getElem?_set_self hlt, hc]⟩
    · obtain ⟨k, hk2⟩ := hR.2 x hx
      refine ⟨k, ?_⟩
      have hkq : k ≠ q0 := fun q => by
        subst q
        rw [hq] at hk2
        cases hk2
        exact hxa rfl
      rw [List.getElem?_set_ne (fun q => hkq q.symm), hk2, ho x hxa]
theorem RepH.push {cy : CY} {h h' : HS} {ws : va_W} {A : Nat → Prop} {q : Nat} {e1 : va_E} (hR : RepH cy h ws) (hD : va_D A (ws ++ [(q, e1)])) (hq : kD h' q ≠ 0) (hc : cellOf cy h' q = e1) (hk : ∀ x, x ≠ q → kD h' x = kD h x) (ho : ∀ x, x ≠ q → cellOf cy h' x = cellOf cy h x) : RepH cy h' (ws ++ [(q, e1)]) ∧ kD h q = 0 := by
  have hlast : (ws ++ [(q, e1)])[ws.length]? = some (q, e1) := by simp
  have hne : ∀ (k x : Nat) (e : va_E), ws[k]? = some (x, e) → x ≠ q := by
    intro k x e he hx
    have hlt := (List.getElem?_eq_some_iff.mp he).1
    have := hD.1 k ws.length (x, e) (q, e1) (by rw [List.getElem?_append_left hlt]; exact he) hlast hx
    omega
  refine ⟨⟨fun k x e he => ?_, fun x hx => ?_⟩, ?_⟩
  · by_cases hk1 : k < ws.length
    · rw [List.getElem?_append_left hk1] at he
      have h1 := hR.1 k x e he
      have hn := hne k x e he
      exact ⟨by rw [hk x hn]; exact h1.1, by rw [ho x hn]; exact h1.2⟩
    · rw [List.getElem?_append_right (by omega)] at he
      have h0 : k - ws.length = 0 := by
        have := (List.getElem?_eq_some_iff.mp he).1
        simp at this
        omega
      rw [h0] at he
      cases he
      exact ⟨hq, hc.symm⟩
  · by_cases hxq : x = q
    · subst hxq
      exact ⟨ws.length, by rw [hlast, hc]⟩
    · rw [hk x hxq] at hx
      obtain ⟨k, hk2⟩ := hR.2 x hx
      have hlt := (List.getElem?_eq_some_iff.mp hk2).1
      exact ⟨k, by rw [List.getElem?_append_left hlt, hk2, ho x hxq]⟩
  · cases hz : kD h q with
    | zero => rfl
    | succ n =>
      obtain ⟨k, hk2⟩ := hR.2 q (by omega)
      exact absurd rfl (hne k q _ hk2)
theorem h_recv {cy : CY} {h : HS} {a ci : Nat} (hk : kD h a = ci + 1) (hc : ci < 7) : ∀ ws, RepH cy h ws → ∃ (q0 : Nat) (fs : List Value), ws[q0]? = some (a, Sum.inr (ci, fs)) := fun ws hR => by
  obtain ⟨k, hk2⟩ := hR.2 a (by omega)
  exact ⟨k, flds h ci a, by rw [hk2, cell_obj hk hc]⟩
theorem cell_setI_ne {cy : CY} {h : HS} {f a x : Nat} {z : Int} (hx : x ≠ a) : cellOf cy (setI h f a z) x = cellOf cy h x := by
  simp [cellOf, flds, fI, setI, kD, ln, aI, aR, fP, hx]
theorem cell_setP_ne {cy : CY} {h : HS} {f a x : Nat} {z : Option Nat} (hx : x ≠ a) : cellOf cy (setP h f a z) x = cellOf cy h x := by
  simp [cellOf, flds, fI, setP, kD, ln, aI, aR, fP, hx]
theorem cell_setA_ne {cy : CY} {h : HS} {a x : Nat} {j z : Int} (hx : x ≠ a) : cellOf cy (setA h a j z) x = cellOf cy h x := by
  simp [cellOf, flds, fI, setA, kD, ln, aI, aR, fP, hx]
theorem cell_setR_ne {cy : CY} {h : HS} {a x : Nat} {j : Int} {z : Option Nat} (hx : x ≠ a) : cellOf cy (setR h a j z) x = cellOf cy h x := by
  simp [cellOf, flds, fI, setR, kD, ln, aI, aR, fP, hx]
theorem cell_newO_ne {cy : CY} {h : HS} {kd q x : Nat} (hx : x ≠ q) : cellOf cy (newO h kd q) x = cellOf cy h x := by
  simp [cellOf, flds, fI, newO, kD, ln, aI, aR, fP, hx]
theorem cell_newA_ne {cy : CY} {h : HS} {kd q n x : Nat} (hx : x ≠ q) : cellOf cy (newA h kd q n) x = cellOf cy h x := by
  simp [cellOf, flds, fI, newA, kD, ln, aI, aR, fP, hx]
theorem fit_vr {n : String} (v : Option Nat) : fits (.object n) (vr v) = true ∧ narrow (.object n) (vr v) = vr v := by
  cases v <;> exact ⟨rfl, rfl⟩
theorem fit_va {t : FieldType} (v : Option Nat) : fits (.array t) (vr v) = true ∧ narrow (.array t) (vr v) = vr v := by
  cases v <;> exact ⟨rfl, rfl⟩
theorem fit_vi (z : Int) : fits .int (vi z) = true ∧ narrow .int (vi z) = vi z := ⟨rfl, rfl⟩
theorem fit_vz {z : Int} (h : z = 0 ∨ z = 1) : fits .boolean (vi z) = true ∧ narrow .boolean (vi z) = vi z := by
  rcases h with rfl | rfl <;> exact ⟨rfl, rfl⟩
theorem upd_int (f : Int → Int) {j : Int} (hj : 0 ≤ j) (z : Int) : upd (fun i : Nat => Int32.ofInt (f i)) j.toNat (Int32.ofInt z) = fun i : Nat => Int32.ofInt (if (i : Int) = j then z else f i) := by
  funext i
  by_cases h : i = j.toNat
  · subst h
    rw [pk_us, if_pos (Int.toNat_of_nonneg hj)]
  · rw [pk_un h, if_neg (fun e => h (by omega))]
theorem va_up_ref (f : Int → Option Nat) {j : Int} (hj : 0 ≤ j) (z : Option Nat) : va_up (fun i : Nat => f i) j.toNat z = fun i : Nat => if (i : Int) = j then z else f i := by
  funext i
  by_cases h : i = j.toNat
  · subst h
    rw [va_up_self, if_pos (Int.toNat_of_nonneg hj)]
  · rw [va_up_ne _ _ h, if_neg (fun e => h (by omega))]
def methIni (φ : Fx) : Prop := match φ with | (_, _, _, _, _, _, _, _, meth, _) => meth.name = "<init>"
section HRules
variable {φ : Fx} {k n pc : Nat} {L : List (Nat × Value)} {st : List Value} {cc : ByteArray} {own : String} {ret : Option FieldType} {cy : CY} {h : HS} {R0 : Room}
theorem h_get0 {f idx a : Nat} {v : Value} (C : Cx φ cc own ret cy) (hk : kD h a = 1) (hf : f < 3) (hw : Cond.fieldLink own idx "VisitorLoom$Change" (TX0 f).2.1 (TX0 f).2.2.1 ∈ wsL_law) (ho : (TX0 f).1 = "VisitorLoom$Change") (hv : (flds h 0 a)[f]? = some v) (hd : decode cc pc = .ok (.getfield idx, 3)) (kk : X φ (RepH cy h) k n (pc + 3) L (v :: st)) : X φ (RepH cy h) k n pc L (vr (some a) :: st) := by
  obtain ⟨p, l, e, R, s, m, args, below, meth, c, A, nL, D, Q⟩ := φ
  obtain ⟨hx, hb, hr, hml, hown, hts, hlocks, hK, -⟩ := C
  intro H locs ws cells slots ls c1 c2 hI hP hD hS hl
  obtain ⟨q0, hq0⟩ := hI.2 a (by omega)
  rw [cell_obj hk (by decide)] at hq0
  refine va_get (D := D) (ci := 0) (fs := flds h 0 a) (C := RX0) (T := TX0) (N := 3) hx hb hts inlX0 hown hK hP q0 hq0 rfl f hf (hts _ hw) (fun x h => by rw [ho] at h; exact h) hv hd ?_
  exact kk H locs ws cells slots ls c1 c2 hI hP hD hS hl
theorem h_put0 {f idx a : Nat} {v : Value} {ty : FieldType} {h' : HS} (C : Cx φ cc own ret cy) (hk : kD h a = 1) (hf : f < 3) (hw : Cond.fieldLink own idx "VisitorLoom$Change" (TX0 f).2.1 (TX0 f).2.2.1 ∈ wsL_law) (ho : (TX0 f).1 = "VisitorLoom$Change") (hfin : (TX0 f).2.2.2 = false) (hty : parseFieldDescriptor (TX0 f).2.2.1 = some ty) (hfit : fits ty v = true ∧ narrow ty v = v) (hc' : cellOf cy h' a = .inr (0, (flds h 0 a).set f v)) (hkd : ∀ x, kD h' x = kD h x) (hoth : ∀ x, x ≠ a → cellOf cy h' x = cellOf cy h x) (hd : decode cc pc = .ok (.putfield idx, 3)) (kk : X φ (RepH cy h') k n (pc + 3) L st) : X φ (RepH cy h) k n pc L (v :: vr (some a) :: st) := by
  obtain ⟨p, l, e, R, s, m, args, below, meth, c, A, nL, D, Q⟩ := φ
  obtain ⟨hx, hb, hr, hml, hown, hts, hlocks, hK, -⟩ := C
  intro H locs ws cells slots ls c1 c2 hI hP hD hS hl
  obtain ⟨q0, hq0⟩ := hI.2 a (by omega)
  rw [cell_obj hk (by decide)] at hq0
  refine va_put (D := D) (ci := 0) (fs := flds h 0 a) (C := RX0) (T := TX0) (N := 3) hx hb hts inlX0 tyX0 tyX0_ok nmX0 hown hK hP hD hS q0 hq0 rfl f hf (hts _ hw) (fun x h => by rw [ho] at h; exact h) hfin hty hfit.2 hfit.1 hf hd (fun H1 locs1 hP1 hD1 hS1 => ?_)
  exact kk H1 locs1 _ cells slots ls c1 c2 (hI.upd hD hq0 hkd hc' hoth) hP1 hD1 hS1 hl
theorem h_put0F {f idx a : Nat} {v : Value} {ty : FieldType} {h' : HS} (C : Cx φ cc own ret cy) (hin : methIni φ) (hown2 : own = "VisitorLoom$Change") (hk : kD h a = 1) (hf : f < 3) (hw : Cond.fieldLink own idx "VisitorLoom$Change" (TX0 f).2.1 (TX0 f).2.2.1 ∈ wsL_law) (ho : (TX0 f).1 = "VisitorLoom$Change") (hfin : (TX0 f).2.2.2 = true) (hty : parseFieldDescriptor (TX0 f).2.2.1 = some ty) (hfit : fits ty v = true ∧ narrow ty v = v) (hc' : cellOf cy h' a = .inr (0, (flds h 0 a).set f v)) (hkd : ∀ x, kD h' x = kD h x) (hoth : ∀ x, x ≠ a → cellOf cy h' x = cellOf cy h x) (hd : decode cc pc = .ok (.putfield idx, 3)) (kk : X φ (RepH cy h') k n (pc + 3) L st) : X φ (RepH cy h) k n pc L (v :: vr (some a) :: st) := by
  obtain ⟨p, l, e, R, s, m, args, below, meth, c, A, nL, D, Q⟩ := φ
  obtain ⟨hx, hb, hr, hml, hown, hts, hlocks, hK, -⟩ := C
  intro H locs ws cells slots ls c1 c2 hI hP hD hS hl
  obtain ⟨q0, hq0⟩ := hI.2 a (by omega)
  rw [cell_obj hk (by decide)] at hq0
  refine va_putF (D := D) (ci := 0) (fs := flds h 0 a) (C := RX0) (T := TX0) (N := 3) hx hb hts inlX0 tyX0 tyX0_ok nmX0 hown hK hP hD hS q0 hq0 rfl f hf (hts _ hw) (fun x h => by rw [ho] at h; exact h) hfin hin (by rw [ho, hown2]) hty hfit.2 hfit.1 hf hd (fun H1 locs1 hP1 hD1 hS1 => ?_)
  exact kk H1 locs1 _ cells slots ls c1 c2 (hI.upd hD hq0 hkd hc' hoth) hP1 hD1 hS1 hl
theorem h_new0 {idx : Nat} (C : Cx φ cc own ret cy) (hR0 : ROf φ = R0) (hcl : Cond.classLink own idx "VisitorLoom$Change" ∈ wsL_law) (hins : Cond.instantiable "VisitorLoom$Change" 3 ∈ wsL_law) (hini : Cond.initialized "VisitorLoom$Change" ∈ wsL_law) (hcell : k + 1 ≤ R0.cells ∧ n + 3 ≤ R0.slots) (hd : decode cc pc = .ok (.new idx, 3)) (kk : ∀ q : Nat, kD h q = 0 → X φ (RepH cy (newO h 1 q)) (k + 1) (n + 3) (pc + 3) L (vr (some q) :: st)) : X φ (RepH cy h) k n pc L st := by
  obtain ⟨p, l, e, R, s, m, args, below, meth, c, A, nL, D, Q⟩ := φ
  obtain ⟨hx, hb, hr, hml, hown, hts, hlocks, hK, hA, -⟩ := C
  have hR : R = R0 := hR0
  subst hR
  intro H locs ws cells slots ls c1 c2 hI hP hD hS hl
  refine va_new (D := D) (ci := 0) (fs := [.int 0, .int 0, .null]) (C := RX0) (T := TX0) (N := 3) hx hb hts inlX0 tyX0 tyX0_ok hown (hts _ hcl) (hts _ hins) (hts _ hini) hK hP hD hS hA rfl (fun j hj => ?_) (by omega) (by omega) hd (fun q H1 hP1 hD1 hS1 => ?_)
  · rcases (show j = 0 ∨ j = 1 ∨ j = 2 by omega) with rfl | rfl | rfl <;> rfl
  · obtain ⟨g1, g2⟩ := hI.push (h' := newO h 1 q) hD1 (by simp [kD, newO]) (by simp [cellOf, newO, kD, flds, fI, fP, vi, vr]; try rfl) (fun x hx => by simp [kD, newO, hx]) (fun x hx => cell_newO_ne hx)
    exact kk q g2 H1 locs _ _ _ ls (Nat.add_le_add_right c1 1) (Nat.add_le_add_right c2 3) g1 hP1 hD1 hS1 hl
theorem h_get1 {f idx a : Nat} {v : Value} (C : Cx φ cc own ret cy) (hk : kD h a = 2) (hf : f < 9) (hw : Cond.fieldLink own idx "VisitorLoom$Event" (TX1 f).2.1 (TX1 f).2.2.1 ∈ wsL_law) (ho : (TX1 f).1 = "VisitorLoom$Event") (hv : (flds h 1 a)[f]? = some v) (hd : decode cc pc = .ok (.getfield idx, 3)) (kk : X φ (RepH cy h) k n (pc + 3) L (v :: st)) : X φ (RepH cy h) k n pc L (vr (some a) :: st) := by
  obtain ⟨p, l, e, R, s, m, args, below, meth, c, A, nL, D, Q⟩ := φ
  obtain ⟨hx, hb, hr, hml, hown, hts, hlocks, hK, -⟩ := C
  intro H locs ws cells slots ls c1 c2 hI hP hD hS hl
  obtain ⟨q0, hq0⟩ := hI.2 a (by omega)
  rw [cell_obj hk (by decide)] at hq0
  refine va_get (D := D) (ci := 1) (fs := flds h 1 a) (C := RX1) (T := TX1) (N := 9) hx hb hts inlX1 hown hK hP q0 hq0 rfl f hf (hts _ hw) (fun x h => by rw [ho] at h; exact h) hv hd ?_
  exact kk H locs ws cells slots ls c1 c2 hI hP hD hS hl
theorem h_put1 {f idx a : Nat} {v : Value} {ty : FieldType} {h' : HS} (C : Cx φ cc own ret cy) (hk : kD h a = 2) (hf : f < 9) (hw : Cond.fieldLink own idx "VisitorLoom$Event" (TX1 f).2.1 (TX1 f).2.2.1 ∈ wsL_law) (ho : (TX1 f).1 = "VisitorLoom$Event") (hfin : (TX1 f).2.2.2 = false) (hty : parseFieldDescriptor (TX1 f).2.2.1 = some ty) (hfit : fits ty v = true ∧ narrow ty v = v) (hc' : cellOf cy h' a = .inr (1, (flds h 1 a).set f v)) (hkd : ∀ x, kD h' x = kD h x) (hoth : ∀ x, x ≠ a → cellOf cy h' x = cellOf cy h x) (hd : decode cc pc = .ok (.putfield idx, 3)) (kk : X φ (RepH cy h') k n (pc + 3) L st) : X φ (RepH cy h) k n pc L (v :: vr (some a) :: st) := by
  obtain ⟨p, l, e, R, s, m, args, below, meth, c, A, nL, D, Q⟩ := φ
  obtain ⟨hx, hb, hr, hml, hown, hts, hlocks, hK, -⟩ := C
  intro H locs ws cells slots ls c1 c2 hI hP hD hS hl
  obtain ⟨q0, hq0⟩ := hI.2 a (by omega)
  rw [cell_obj hk (by decide)] at hq0
  refine va_put (D := D) (ci := 1) (fs := flds h 1 a) (C := RX1) (T := TX1) (N := 9) hx hb hts inlX1 tyX1 tyX1_ok nmX1 hown hK hP hD hS q0 hq0 rfl f hf (hts _ hw) (fun x h => by rw [ho] at h; exact h) hfin hty hfit.2 hfit.1 hf hd (fun H1 locs1 hP1 hD1 hS1 => ?_)
  exact kk H1 locs1 _ cells slots ls c1 c2 (hI.upd hD hq0 hkd hc' hoth) hP1 hD1 hS1 hl
theorem h_put1F {f idx a : Nat} {v : Value} {ty : FieldType} {h' : HS} (C : Cx φ cc own ret cy) (hin : methIni φ) (hown2 : own = "VisitorLoom$Event") (hk : kD h a = 2) (hf : f < 9) (hw : Cond.fieldLink own idx "VisitorLoom$Event" (TX1 f).2.1 (TX1 f).2.2.1 ∈ wsL_law) (ho : (TX1 f).1 = "VisitorLoom$Event") (hfin : (TX1 f).2.2.2 = true) (hty : parseFieldDescriptor (TX1 f).2.2.1 = some ty) (hfit : fits ty v = true ∧ narrow ty v = v) (hc' : cellOf cy h' a = .inr (1, (flds h 1 a).set f v)) (hkd : ∀ x, kD h' x = kD h x) (hoth : ∀ x, x ≠ a → cellOf cy h' x = cellOf cy h x) (hd : decode cc pc = .ok (.putfield idx, 3)) (kk : X φ (RepH cy h') k n (pc + 3) L st) : X φ (RepH cy h) k n pc L (v :: vr (some a) :: st) := by
  obtain ⟨p, l, e, R, s, m, args, below, meth, c, A, nL, D, Q⟩ := φ
  obtain ⟨hx, hb, hr, hml, hown, hts, hlocks, hK, -⟩ := C
  intro H locs ws cells slots ls c1 c2 hI hP hD hS hl
  obtain ⟨q0, hq0⟩ := hI.2 a (by omega)
  rw [cell_obj hk (by decide)] at hq0
  refine va_putF (D := D) (ci := 1) (fs := flds h 1 a) (C := RX1) (T := TX1) (N := 9) hx hb hts inlX1 tyX1 tyX1_ok nmX1 hown hK hP hD hS q0 hq0 rfl f hf (hts _ hw) (fun x h => by rw [ho] at h; exact h) hfin hin (by rw [ho, hown2]) hty hfit.2 hfit.1 hf hd (fun H1 locs1 hP1 hD1 hS1 => ?_)
  exact kk H1 locs1 _ cells slots ls c1 c2 (hI.upd hD hq0 hkd hc' hoth) hP1 hD1 hS1 hl
theorem h_new1 {idx : Nat} (C : Cx φ cc own ret cy) (hR0 : ROf φ = R0) (hcl : Cond.classLink own idx "VisitorLoom$Event" ∈ wsL_law) (hins : Cond.instantiable "VisitorLoom$Event" 9 ∈ wsL_law) (hini : Cond.initialized "VisitorLoom$Event" ∈ wsL_law) (hcell : k + 1 ≤ R0.cells ∧ n + 9 ≤ R0.slots) (hd : decode cc pc = .ok (.new idx, 3)) (kk : ∀ q : Nat, kD h q = 0 → X φ (RepH cy (newO h 2 q)) (k + 1) (n + 9) (pc + 3) L (vr (some q) :: st)) : X φ (RepH cy h) k n pc L st := by
  obtain ⟨p, l, e, R, s, m, args, below, meth, c, A, nL, D, Q⟩ := φ
  obtain ⟨hx, hb, hr, hml, hown, hts, hlocks, hK, hA, -⟩ := C
  have hR : R = R0 := hR0
  subst hR
  intro H locs ws cells slots ls c1 c2 hI hP hD hS hl
  refine va_new (D := D) (ci := 1) (fs := [.int 0, .null, .null, .int 0, .int 0, .int 0, .int 0, .int 0, .null]) (C := RX1) (T := TX1) (N := 9) hx hb hts inlX1 tyX1 tyX1_ok hown (hts _ hcl) (hts _ hins) (hts _ hini) hK hP hD hS hA rfl (fun j hj => ?_) (by omega) (by omega) hd (fun q H1 hP1 hD1 hS1 => ?_)
  · rcases (show j = 0 ∨ j = 1 ∨ j = 2 ∨ j = 3 ∨ j = 4 ∨ j = 5 ∨ j = 6 ∨ j = 7 ∨ j = 8 by omega) with rfl | rfl | rfl | rfl | rfl | rfl | rfl | rfl | rfl <;> rfl
  · obtain ⟨g1, g2⟩ := hI.push (h' := newO h 2 q) hD1 (by simp [kD, newO]) (by simp [cellOf, newO, kD, flds, fI, fP, vi, vr]; try rfl) (fun x hx => by simp [kD, newO, hx]) (fun x hx => cell_newO_ne hx)
    exact kk q g2 H1 locs _ _ _ ls (Nat.add_le_add_right c1 1) (Nat.add_le_add_right c2 9) g1 hP1 hD1 hS1 hl
theorem h_get2 {f idx a : Nat} {v : Value} (C : Cx φ cc own ret cy) (hk : kD h a = 3) (hf : f < 2) (hw : Cond.fieldLink own idx "VisitorLoom$EventChain" (TX2 f).2.1 (TX2 f).2.2.1 ∈ wsL_law) (ho : (TX2 f).1 = "VisitorLoom$EventChain") (hv : (flds h 2 a)[f]? = some v) (hd : decode cc pc = .ok (.getfield idx, 3)) (kk : X φ (RepH cy h) k n (pc + 3) L (v :: st)) : X φ (RepH cy h) k n pc L (vr (some a) :: st) := by
  obtain ⟨p, l, e, R, s, m, args, below, meth, c, A, nL, D, Q⟩ := φ
  obtain ⟨hx, hb, hr, hml, hown, hts, hlocks, hK, -⟩ := C
  intro H locs ws cells slots ls c1 c2 hI hP hD hS hl
  obtain ⟨q0, hq0⟩ := hI.2 a (by omega)
  rw [cell_obj hk (by decide)] at hq0
  refine va_get (D := D) (ci := 2) (fs := flds h 2 a) (C := RX2) (T := TX2) (N := 2) hx hb hts inlX2 hown hK hP q0 hq0 rfl f hf (hts _ hw) (fun x h => by rw [ho] at h; exact h) hv hd ?_
  exact kk H locs ws cells slots ls c1 c2 hI hP hD hS hl
theorem h_put2 {f idx a : Nat} {v : Value} {ty : FieldType} {h' : HS} (C : Cx φ cc own ret cy) (hk : kD h a = 3) (hf : f < 2) (hw : Cond.fieldLink own idx "VisitorLoom$EventChain" (TX2 f).2.1 (TX2 f).2.2.1 ∈ wsL_law) (ho : (TX2 f).1 = "VisitorLoom$EventChain") (hfin : (TX2 f).2.2.2 = false) (hty : parseFieldDescriptor (TX2 f).2.2.1 = some ty) (hfit : fits ty v = true ∧ narrow ty v = v) (hc' : cellOf cy h' a = .inr (2, (flds h 2 a).set f v)) (hkd : ∀ x, kD h' x = kD h x) (hoth : ∀ x, x ≠ a → cellOf cy h' x = cellOf cy h x) (hd : decode cc pc = .ok (.putfield idx, 3)) (kk : X φ (RepH cy h') k n (pc + 3) L st) : X φ (RepH cy h) k n pc L (v :: vr (some a) :: st) := by
  obtain ⟨p, l, e, R, s, m, args, below, meth, c, A, nL, D, Q⟩ := φ
  obtain ⟨hx, hb, hr, hml, hown, hts, hlocks, hK, -⟩ := C
  intro H locs ws cells slots ls c1 c2 hI hP hD hS hl
  obtain ⟨q0, hq0⟩ := hI.2 a (by omega)
  rw [cell_obj hk (by decide)] at hq0
  refine va_put (D := D) (ci := 2) (fs := flds h 2 a) (C := RX2) (T := TX2) (N := 2) hx hb hts inlX2 tyX2 tyX2_ok nmX2 hown hK hP hD hS q0 hq0 rfl f hf (hts _ hw) (fun x h => by rw [ho] at h; exact h) hfin hty hfit.2 hfit.1 hf hd (fun H1 locs1 hP1 hD1 hS1 => ?_)
  exact kk H1 locs1 _ cells slots ls c1 c2 (hI.upd hD hq0 hkd hc' hoth) hP1 hD1 hS1 hl
theorem h_put2F {f idx a : Nat} {v : Value} {ty : FieldType} {h' : HS} (C : Cx φ cc own ret cy) (hin : methIni φ) (hown2 : own = "VisitorLoom$EventChain") (hk : kD h a = 3) (hf : f < 2) (hw : Cond.fieldLink own idx "VisitorLoom$EventChain" (TX2 f).2.1 (TX2 f).2.2.1 ∈ wsL_law) (ho : (TX2 f).1 = "VisitorLoom$EventChain") (hfin : (TX2 f).2.2.2 = true) (hty : parseFieldDescriptor (TX2 f).2.2.1 = some ty) (hfit : fits ty v = true ∧ narrow ty v = v) (hc' : cellOf cy h' a = .inr (2, (flds h 2 a).set f v)) (hkd : ∀ x, kD h' x = kD h x) (hoth : ∀ x, x ≠ a → cellOf cy h' x = cellOf cy h x) (hd : decode cc pc = .ok (.putfield idx, 3)) (kk : X φ (RepH cy h') k n (pc + 3) L st) : X φ (RepH cy h) k n pc L (v :: vr (some a) :: st) := by
  obtain ⟨p, l, e, R, s, m, args, below, meth, c, A, nL, D, Q⟩ := φ
  obtain ⟨hx, hb, hr, hml, hown, hts, hlocks, hK, -⟩ := C
  intro H locs ws cells slots ls c1 c2 hI hP hD hS hl
  obtain ⟨q0, hq0⟩ := hI.2 a (by omega)
  rw [cell_obj hk (by decide)] at hq0
  refine va_putF (D := D) (ci := 2) (fs := flds h 2 a) (C := RX2) (T := TX2) (N := 2) hx hb hts inlX2 tyX2 tyX2_ok nmX2 hown hK hP hD hS q0 hq0 rfl f hf (hts _ hw) (fun x h => by rw [ho] at h; exact h) hfin hin (by rw [ho, hown2]) hty hfit.2 hfit.1 hf hd (fun H1 locs1 hP1 hD1 hS1 => ?_)
  exact kk H1 locs1 _ cells slots ls c1 c2 (hI.upd hD hq0 hkd hc' hoth) hP1 hD1 hS1 hl
theorem h_new2 {idx : Nat} (C : Cx φ cc own ret cy) (hR0 : ROf φ = R0) (hcl : Cond.classLink own idx "VisitorLoom$EventChain" ∈ wsL_law) (hins : Cond.instantiable "VisitorLoom$EventChain" 2 ∈ wsL_law) (hini : Cond.initialized "VisitorLoom$EventChain" ∈ wsL_law) (hcell : k + 1 ≤ R0.cells ∧ n + 2 ≤ R0.slots) (hd : decode cc pc = .ok (.new idx, 3)) (kk : ∀ q : Nat, kD h q = 0 → X φ (RepH cy (newO h 3 q)) (k + 1) (n + 2) (pc + 3) L (vr (some q) :: st)) : X φ (RepH cy h) k n pc L st := by
  obtain ⟨p, l, e, R, s, m, args, below, meth, c, A, nL, D, Q⟩ := φ
  obtain ⟨hx, hb, hr, hml, hown, hts, hlocks, hK, hA, -⟩ := C
  have hR : R = R0 := hR0
  subst hR
  intro H locs ws cells slots ls c1 c2 hI hP hD hS hl
  refine va_new (D := D) (ci := 2) (fs := [.null, .null]) (C := RX2) (T := TX2) (N := 2) hx hb hts inlX2 tyX2 tyX2_ok hown (hts _ hcl) (hts _ hins) (hts _ hini) hK hP hD hS hA rfl (fun j hj => ?_) (by omega) (by omega) hd (fun q H1 hP1 hD1 hS1 => ?_)
  · rcases (show j = 0 ∨ j = 1 by omega) with rfl | rfl <;> rfl
  · obtain ⟨g1, g2⟩ := hI.push (h' := newO h 3 q) hD1 (by simp [kD, newO]) (by simp [cellOf, newO, kD, flds, fI, fP, vi, vr]; try rfl) (fun x hx => by simp [kD, newO, hx]) (fun x hx => cell_newO_ne hx)
    exact kk q g2 H1 locs _ _ _ ls (Nat.add_le_add_right c1 1) (Nat.add_le_add_right c2 2) g1 hP1 hD1 hS1 hl
theorem h_get3 {f idx a : Nat} {v : Value} (C : Cx φ cc own ret cy) (hk : kD h a = 4) (hf : f < 7) (hw : Cond.fieldLink own idx "VisitorLoom$Group" (TX3 f).2.1 (TX3 f).2.2.1 ∈ wsL_law) (ho : (TX3 f).1 = "VisitorLoom$Group") (hv : (flds h 3 a)[f]? = some v) (hd : decode cc pc = .ok (.getfield idx, 3)) (kk : X φ (RepH cy h) k n (pc + 3) L (v :: st)) : X φ (RepH cy h) k n pc L (vr (some a) :: st) := by
  obtain ⟨p, l, e, R, s, m, args, below, meth, c, A, nL, D, Q⟩ := φ
  obtain ⟨hx, hb, hr, hml, hown, hts, hlocks, hK, -⟩ := C
  intro H locs ws cells slots ls c1 c2 hI hP hD hS hl
  obtain ⟨q0, hq0⟩ := hI.2 a (by omega)
  rw [cell_obj hk (by decide)] at hq0
  refine va_get (D := D) (ci := 3) (fs := flds h 3 a) (C := RX3) (T := TX3) (N := 7) hx hb hts inlX3 hown hK hP q0 hq0 rfl f hf (hts _ hw) (fun x h => by rw [ho] at h; exact h) hv hd ?_
  exact kk H locs ws cells slots ls c1 c2 hI hP hD hS hl
theorem h_put3 {f idx a : Nat} {v : Value} {ty : FieldType} {h' : HS} (C : Cx φ cc own ret cy) (hk : kD h a = 4) (hf : f < 7) (hw : Cond.fieldLink own idx "VisitorLoom$Group" (TX3 f).2.1 (TX3 f).2.2.1 ∈ wsL_law) (ho : (TX3 f).1 = "VisitorLoom$Group") (hfin : (TX3 f).2.2.2 = false) (hty : parseFieldDescriptor (TX3 f).2.2.1 = some ty) (hfit : fits ty v = true ∧ narrow ty v = v) (hc' : cellOf cy h' a = .inr (3, (flds h 3 a).set f v)) (hkd : ∀ x, kD h' x = kD h x) (hoth : ∀ x, x ≠ a → cellOf cy h' x = cellOf cy h x) (hd : decode cc pc = .ok (.putfield idx, 3)) (kk : X φ (RepH cy h') k n (pc + 3) L st) : X φ (RepH cy h) k n pc L (v :: vr (some a) :: st) := by
  obtain ⟨p, l, e, R, s, m, args, below, meth, c, A, nL, D, Q⟩ := φ
  obtain ⟨hx, hb, hr, hml, hown, hts, hlocks, hK, -⟩ := C
  intro H locs ws cells slots ls c1 c2 hI hP hD hS hl
  obtain ⟨q0, hq0⟩ := hI.2 a (by omega)
  rw [cell_obj hk (by decide)] at hq0
  refine va_put (D := D) (ci := 3) (fs := flds h 3 a) (C := RX3) (T := TX3) (N := 7) hx hb hts inlX3 tyX3 tyX3_ok nmX3 hown hK hP hD hS q0 hq0 rfl f hf (hts _ hw) (fun x h => by rw [ho] at h; exact h) hfin hty hfit.2 hfit.1 hf hd (fun H1 locs1 hP1 hD1 hS1 => ?_)
  exact kk H1 locs1 _ cells slots ls c1 c2 (hI.upd hD hq0 hkd hc' hoth) hP1 hD1 hS1 hl
theorem h_put3F {f idx a : Nat} {v : Value} {ty : FieldType} {h' : HS} (C : Cx φ cc own ret cy) (hin : methIni φ) (hown2 : own = "VisitorLoom$Group") (hk : kD h a = 4) (hf : f < 7) (hw : Cond.fieldLink own idx "VisitorLoom$Group" (TX3 f).2.1 (TX3 f).2.2.1 ∈ wsL_law) (ho : (TX3 f).1 = "VisitorLoom$Group") (hfin : (TX3 f).2.2.2 = true) (hty : parseFieldDescriptor (TX3 f).2.2.1 = some ty) (hfit : fits ty v = true ∧ narrow ty v = v) (hc' : cellOf cy h' a = .inr (3, (flds h 3 a).set f v)) (hkd : ∀ x, kD h' x = kD h x) (hoth : ∀ x, x ≠ a → cellOf cy h' x = cellOf cy h x) (hd : decode cc pc = .ok (.putfield idx, 3)) (kk : X φ (RepH cy h') k n (pc + 3) L st) : X φ (RepH cy h) k n pc L (v :: vr (some a) :: st) := by
  obtain ⟨p, l, e, R, s, m, args, below, meth, c, A, nL, D, Q⟩ := φ
  obtain ⟨hx, hb, hr, hml, hown, hts, hlocks, hK, -⟩ := C
  intro H locs ws cells slots ls c1 c2 hI hP hD hS hl
  obtain ⟨q0, hq0⟩ := hI.2 a (by omega)
  rw [cell_obj hk (by decide)] at hq0
  refine va_putF (D := D) (ci := 3) (fs := flds h 3 a) (C := RX3) (T := TX3) (N := 7) hx hb hts inlX3 tyX3 tyX3_ok nmX3 hown hK hP hD hS q0 hq0 rfl f hf (hts _ hw) (fun x h => by rw [ho] at h; exact h) hfin hin (by rw [ho, hown2]) hty hfit.2 hfit.1 hf hd (fun H1 locs1 hP1 hD1 hS1 => ?_)
  exact kk H1 locs1 _ cells slots ls c1 c2 (hI.upd hD hq0 hkd hc' hoth) hP1 hD1 hS1 hl
theorem h_new3 {idx : Nat} (C : Cx φ cc own ret cy) (hR0 : ROf φ = R0) (hcl : Cond.classLink own idx "VisitorLoom$Group" ∈ wsL_law) (hins : Cond.instantiable "VisitorLoom$Group" 7 ∈ wsL_law) (hini : Cond.initialized "VisitorLoom$Group" ∈ wsL_law) (hcell : k + 1 ≤ R0.cells ∧ n + 7 ≤ R0.slots) (hd : decode cc pc = .ok (.new idx, 3)) (kk : ∀ q : Nat, kD h q = 0 → X φ (RepH cy (newO h 4 q)) (k + 1) (n + 7) (pc + 3) L (vr (some q) :: st)) : X φ (RepH cy h) k n pc L st := by
  obtain ⟨p, l, e, R, s, m, args, below, meth, c, A, nL, D, Q⟩ := φ
  obtain ⟨hx, hb, hr, hml, hown, hts, hlocks, hK, hA, -⟩ := C
  have hR : R = R0 := hR0
  subst hR
  intro H locs ws cells slots ls c1 c2 hI hP hD hS hl
  refine va_new (D := D) (ci := 3) (fs := [.int 0, .int 0, .int 0, .int 0, .int 0, .int 0, .null]) (C := RX3) (T := TX3) (N := 7) hx hb hts inlX3 tyX3 tyX3_ok hown (hts _ hcl) (hts _ hins) (hts _ hini) hK hP hD hS hA rfl (fun j hj => ?_) (by omega) (by omega) hd (fun q H1 hP1 hD1 hS1 => ?_)
  · rcases (show j = 0 ∨ j = 1 ∨ j = 2 ∨ j = 3 ∨ j = 4 ∨ j = 5 ∨ j = 6 by omega) with rfl | rfl | rfl | rfl | rfl | rfl | rfl <;> rfl
  · obtain ⟨g1, g2⟩ := hI.push (h' := newO h 4 q) hD1 (by simp [kD, newO]) (by simp [cellOf, newO, kD, flds, fI, fP, vi, vr]; try rfl) (fun x hx => by simp [kD, newO, hx]) (fun x hx => cell_newO_ne hx)
    exact kk q g2 H1 locs _ _ _ ls (Nat.add_le_add_right c1 1) (Nat.add_le_add_right c2 7) g1 hP1 hD1 hS1 hl
theorem h_get4 {f idx a : Nat} {v : Value} (C : Cx φ cc own ret cy) (hk : kD h a = 5) (hf : f < 7) (hw : Cond.fieldLink own idx "VisitorLoom$Node" (TX4 f).2.1 (TX4 f).2.2.1 ∈ wsL_law) (ho : (TX4 f).1 = "VisitorLoom$Node") (hv : (flds h 4 a)[f]? = some v) (hd : decode cc pc = .ok (.getfield idx, 3)) (kk : X φ (RepH cy h) k n (pc + 3) L (v :: st)) : X φ (RepH cy h) k n pc L (vr (some a) :: st) := by
  obtain ⟨p, l, e, R, s, m, args, below, meth, c, A, nL, D, Q⟩ := φ
  obtain ⟨hx, hb, hr, hml, hown, hts, hlocks, hK, -⟩ := C
  intro H locs ws cells slots ls c1 c2 hI hP hD hS hl
  obtain ⟨q0, hq0⟩ := hI.2 a (by omega)
  rw [cell_obj hk (by decide)] at hq0
  refine va_get (D := D) (ci := 4) (fs := flds h 4 a) (C := RX4) (T := TX4) (N := 7) hx hb hts inlX4 hown hK hP q0 hq0 rfl f hf (hts _ hw) (fun x h => by rw [ho] at h; exact h) hv hd ?_
  exact kk H locs ws cells slots ls c1 c2 hI hP hD hS hl
theorem h_put4 {f idx a : Nat} {v : Value} {ty : FieldType} {h' : HS} (C : Cx φ cc own ret cy) (hk : kD h a = 5) (hf : f < 7) (hw : Cond.fieldLink own idx "VisitorLoom$Node" (TX4 f).2.1 (TX4 f).2.2.1 ∈ wsL_law) (ho : (TX4 f).1 = "VisitorLoom$Node") (hfin : (TX4 f).2.2.2 = false) (hty : parseFieldDescriptor (TX4 f).2.2.1 = some ty) (hfit : fits ty v = true ∧ narrow ty v = v) (hc' : cellOf cy h' a = .inr (4, (flds h 4 a).set f v)) (hkd : ∀ x, kD h' x = kD h x) (hoth : ∀ x, x ≠ a → cellOf cy h' x = cellOf cy h x) (hd : decode cc pc = .ok (.putfield idx, 3)) (kk : X φ (RepH cy h') k n (pc + 3) L st) : X φ (RepH cy h) k n pc L (v :: vr (some a) :: st) := by
  obtain ⟨p, l, e, R, s, m, args, below, meth, c, A, nL, D, Q⟩ := φ
  obtain ⟨hx, hb, hr, hml, hown, hts, hlocks, hK, -⟩ := C
  intro H locs ws cells slots ls c1 c2 hI hP hD hS hl
  obtain ⟨q0, hq0⟩ := hI.2 a (by omega)
  rw [cell_obj hk (by decide)] at hq0
  refine va_put (D := D) (ci := 4) (fs := flds h 4 a) (C := RX4) (T := TX4) (N := 7) hx hb hts inlX4 tyX4 tyX4_ok nmX4 hown hK hP hD hS q0 hq0 rfl f hf (hts _ hw) (fun x h => by rw [ho] at h; exact h) hfin hty hfit.2 hfit.1 hf hd (fun H1 locs1 hP1 hD1 hS1 => ?_)
  exact kk H1 locs1 _ cells slots ls c1 c2 (hI.upd hD hq0 hkd hc' hoth) hP1 hD1 hS1 hl
theorem h_put4F {f idx a : Nat} {v : Value} {ty : FieldType} {h' : HS} (C : Cx φ cc own ret cy) (hin : methIni φ) (hown2 : own = "VisitorLoom$Node") (hk : kD h a = 5) (hf : f < 7) (hw : Cond.fieldLink own idx "VisitorLoom$Node" (TX4 f).2.1 (TX4 f).2.2.1 ∈ wsL_law) (ho : (TX4 f).1 = "VisitorLoom$Node") (hfin : (TX4 f).2.2.2 = true) (hty : parseFieldDescriptor (TX4 f).2.2.1 = some ty) (hfit : fits ty v = true ∧ narrow ty v = v) (hc' : cellOf cy h' a = .inr (4, (flds h 4 a).set f v)) (hkd : ∀ x, kD h' x = kD h x) (hoth : ∀ x, x ≠ a → cellOf cy h' x = cellOf cy h x) (hd : decode cc pc = .ok (.putfield idx, 3)) (kk : X φ (RepH cy h') k n (pc + 3) L st) : X φ (RepH cy h) k n pc L (v :: vr (some a) :: st) := by
  obtain ⟨p, l, e, R, s, m, args, below, meth, c, A, nL, D, Q⟩ := φ
  obtain ⟨hx, hb, hr, hml, hown, hts, hlocks, hK, -⟩ := C
  intro H locs ws cells slots ls c1 c2 hI hP hD hS hl
  obtain ⟨q0, hq0⟩ := hI.2 a (by omega)
  rw [cell_obj hk (by decide)] at hq0
  refine va_putF (D := D) (ci := 4) (fs := flds h 4 a) (C := RX4) (T := TX4) (N := 7) hx hb hts inlX4 tyX4 tyX4_ok nmX4 hown hK hP hD hS q0 hq0 rfl f hf (hts _ hw) (fun x h => by rw [ho] at h; exact h) hfin hin (by rw [ho, hown2]) hty hfit.2 hfit.1 hf hd (fun H1 locs1 hP1 hD1 hS1 => ?_)
  exact kk H1 locs1 _ cells slots ls c1 c2 (hI.upd hD hq0 hkd hc' hoth) hP1 hD1 hS1 hl
theorem h_new4 {idx : Nat} (C : Cx φ cc own ret cy) (hR0 : ROf φ = R0) (hcl : Cond.classLink own idx "VisitorLoom$Node" ∈ wsL_law) (hins : Cond.instantiable "VisitorLoom$Node" 7 ∈ wsL_law) (hini : Cond.initialized "VisitorLoom$Node" ∈ wsL_law) (hcell : k + 1 ≤ R0.cells ∧ n + 7 ≤ R0.slots) (hd : decode cc pc = .ok (.new idx, 3)) (kk : ∀ q : Nat, kD h q = 0 → X φ (RepH cy (newO h 5 q)) (k + 1) (n + 7) (pc + 3) L (vr (some q) :: st)) : X φ (RepH cy h) k n pc L st := by
  obtain ⟨p, l, e, R, s, m, args, below, meth, c, A, nL, D, Q⟩ := φ
  obtain ⟨hx, hb, hr, hml, hown, hts, hlocks, hK, hA, -⟩ := C
  have hR : R = R0 := hR0
  subst hR
  intro H locs ws cells slots ls c1 c2 hI hP hD hS hl
  refine va_new (D := D) (ci := 4) (fs := [.int 0, .null, .null, .int 0, .int 0, .int 0, .int 0]) (C := RX4) (T := TX4) (N := 7) hx hb hts inlX4 tyX4 tyX4_ok hown (hts _ hcl) (hts _ hins) (hts _ hini) hK hP hD hS hA rfl (fun j hj => ?_) (by omega) (by omega) hd (fun q H1 hP1 hD1 hS1 => ?_)
  · rcases (show j = 0 ∨ j = 1 ∨ j = 2 ∨ j = 3 ∨ j = 4 ∨ j = 5 ∨ j = 6 by omega) with rfl | rfl | rfl | rfl | rfl | rfl | rfl <;> rfl
  · obtain ⟨g1, g2⟩ := hI.push (h' := newO h 5 q) hD1 (by simp [kD, newO]) (by simp [cellOf, newO, kD, flds, fI, fP, vi, vr]; try rfl) (fun x hx => by simp [kD, newO, hx]) (fun x hx => cell_newO_ne hx)
    exact kk q g2 H1 locs _ _ _ ls (Nat.add_le_add_right c1 1) (Nat.add_le_add_right c2 7) g1 hP1 hD1 hS1 hl
theorem h_get5 {f idx a : Nat} {v : Value} (C : Cx φ cc own ret cy) (hk : kD h a = 6) (hf : f < 5) (hw : Cond.fieldLink own idx "VisitorLoom$Session" (TX5 f).2.1 (TX5 f).2.2.1 ∈ wsL_law) (ho : (TX5 f).1 = "VisitorLoom$Session") (hv : (flds h 5 a)[f]? = some v) (hd : decode cc pc = .ok (.getfield idx, 3)) (kk : X φ (RepH cy h) k n (pc + 3) L (v :: st)) : X φ (RepH cy h) k n pc L (vr (some a) :: st) := by
  obtain ⟨p, l, e, R, s, m, args, below, meth, c, A, nL, D, Q⟩ := φ
  obtain ⟨hx, hb, hr, hml, hown, hts, hlocks, hK, -⟩ := C
  intro H locs ws cells slots ls c1 c2 hI hP hD hS hl
  obtain ⟨q0, hq0⟩ := hI.2 a (by omega)
  rw [cell_obj hk (by decide)] at hq0
  refine va_get (D := D) (ci := 5) (fs := flds h 5 a) (C := RX5) (T := TX5) (N := 5) hx hb hts inlX5 hown hK hP q0 hq0 rfl f hf (hts _ hw) (fun x h => by rw [ho] at h; exact h) hv hd ?_
  exact kk H locs ws cells slots ls c1 c2 hI hP hD hS hl
theorem h_put5 {f idx a : Nat} {v : Value} {ty : FieldType} {h' : HS} (C : Cx φ cc own ret cy) (hk : kD h a = 6) (hf : f < 5) (hw : Cond.fieldLink own idx "VisitorLoom$Session" (TX5 f).2.1 (TX5 f).2.2.1 ∈ wsL_law) (ho : (TX5 f).1 = "VisitorLoom$Session") (hfin : (TX5 f).2.2.2 = false) (hty : parseFieldDescriptor (TX5 f).2.2.1 = some ty) (hfit : fits ty v = true ∧ narrow ty v = v) (hc' : cellOf cy h' a = .inr (5, (flds h 5 a).set f v)) (hkd : ∀ x, kD h' x = kD h x) (hoth : ∀ x, x ≠ a → cellOf cy h' x = cellOf cy h x) (hd : decode cc pc = .ok (.putfield idx, 3)) (kk : X φ (RepH cy h') k n (pc + 3) L st) : X φ (RepH cy h) k n pc L (v :: vr (some a) :: st) := by
  obtain ⟨p, l, e, R, s, m, args, below, meth, c, A, nL, D, Q⟩ := φ
  obtain ⟨hx, hb, hr, hml, hown, hts, hlocks, hK, -⟩ := C
  intro H locs ws cells slots ls c1 c2 hI hP hD hS hl
  obtain ⟨q0, hq0⟩ := hI.2 a (by omega)
  rw [cell_obj hk (by decide)] at hq0
  refine va_put (D := D) (ci := 5) (fs := flds h 5 a) (C := RX5) (T := TX5) (N := 5) hx hb hts inlX5 tyX5 tyX5_ok nmX5 hown hK hP hD hS q0 hq0 rfl f hf (hts _ hw) (fun x h => by rw [ho] at h; exact h) hfin hty hfit.2 hfit.1 hf hd (fun H1 locs1 hP1 hD1 hS1 => ?_)
  exact kk H1 locs1 _ cells slots ls c1 c2 (hI.upd hD hq0 hkd hc' hoth) hP1 hD1 hS1 hl
theorem h_put5F {f idx a : Nat} {v : Value} {ty : FieldType} {h' : HS} (C : Cx φ cc own ret cy) (hin : methIni φ) (hown2 : own = "VisitorLoom$Session") (hk : kD h a = 6) (hf : f < 5) (hw : Cond.fieldLink own idx "VisitorLoom$Session" (TX5 f).2.1 (TX5 f).2.2.1 ∈ wsL_law) (ho : (TX5 f).1 = "VisitorLoom$Session") (hfin : (TX5 f).2.2.2 = true) (hty : parseFieldDescriptor (TX5 f).2.2.1 = some ty) (hfit : fits ty v = true ∧ narrow ty v = v) (hc' : cellOf cy h' a = .inr (5, (flds h 5 a).set f v)) (hkd : ∀ x, kD h' x = kD h x) (hoth : ∀ x, x ≠ a → cellOf cy h' x = cellOf cy h x) (hd : decode cc pc = .ok (.putfield idx, 3)) (kk : X φ (RepH cy h') k n (pc + 3) L st) : X φ (RepH cy h) k n pc L (v :: vr (some a) :: st) := by
  obtain ⟨p, l, e, R, s, m, args, below, meth, c, A, nL, D, Q⟩ := φ
  obtain ⟨hx, hb, hr, hml, hown, hts, hlocks, hK, -⟩ := C
  intro H locs ws cells slots ls c1 c2 hI hP hD hS hl
  obtain ⟨q0, hq0⟩ := hI.2 a (by omega)
  rw [cell_obj hk (by decide)] at hq0
  refine va_putF (D := D) (ci := 5) (fs := flds h 5 a) (C := RX5) (T := TX5) (N := 5) hx hb hts inlX5 tyX5 tyX5_ok nmX5 hown hK hP hD hS q0 hq0 rfl f hf (hts _ hw) (fun x h => by rw [ho] at h; exact h) hfin hin (by rw [ho, hown2]) hty hfit.2 hfit.1 hf hd (fun H1 locs1 hP1 hD1 hS1 => ?_)
  exact kk H1 locs1 _ cells slots ls c1 c2 (hI.upd hD hq0 hkd hc' hoth) hP1 hD1 hS1 hl
theorem h_new5 {idx : Nat} (C : Cx φ cc own ret cy) (hR0 : ROf φ = R0) (hcl : Cond.classLink own idx "VisitorLoom$Session" ∈ wsL_law) (hins : Cond.instantiable "VisitorLoom$Session" 5 ∈ wsL_law) (hini : Cond.initialized "VisitorLoom$Session" ∈ wsL_law) (hcell : k + 1 ≤ R0.cells ∧ n + 5 ≤ R0.slots) (hd : decode cc pc = .ok (.new idx, 3)) (kk : ∀ q : Nat, kD h q = 0 → X φ (RepH cy (newO h 6 q)) (k + 1) (n + 5) (pc + 3) L (vr (some q) :: st)) : X φ (RepH cy h) k n pc L st := by
  obtain ⟨p, l, e, R, s, m, args, below, meth, c, A, nL, D, Q⟩ := φ
  obtain ⟨hx, hb, hr, hml, hown, hts, hlocks, hK, hA, -⟩ := C
  have hR : R = R0 := hR0
  subst hR
  intro H locs ws cells slots ls c1 c2 hI hP hD hS hl
  refine va_new (D := D) (ci := 5) (fs := [.int 0, .int 0, .int 0, .int 0, .int 0]) (C := RX5) (T := TX5) (N := 5) hx hb hts inlX5 tyX5 tyX5_ok hown (hts _ hcl) (hts _ hins) (hts _ hini) hK hP hD hS hA rfl (fun j hj => ?_) (by omega) (by omega) hd (fun q H1 hP1 hD1 hS1 => ?_)
  · rcases (show j = 0 ∨ j = 1 ∨ j = 2 ∨ j = 3 ∨ j = 4 by omega) with rfl | rfl | rfl | rfl | rfl <;> rfl
  · obtain ⟨g1, g2⟩ := hI.push (h' := newO h 6 q) hD1 (by simp [kD, newO]) (by simp [cellOf, newO, kD, flds, fI, fP, vi, vr]; try rfl) (fun x hx => by simp [kD, newO, hx]) (fun x hx => cell_newO_ne hx)
    exact kk q g2 H1 locs _ _ _ ls (Nat.add_le_add_right c1 1) (Nat.add_le_add_right c2 5) g1 hP1 hD1 hS1 hl
theorem h_get6 {f idx a : Nat} {v : Value} (C : Cx φ cc own ret cy) (hk : kD h a = 7) (hf : f < 12) (hw : Cond.fieldLink own idx "VisitorLoom" (TX6 f).2.1 (TX6 f).2.2.1 ∈ wsL_law) (ho : (TX6 f).1 = "VisitorLoom") (hv : (flds h 6 a)[f]? = some v) (hd : decode cc pc = .ok (.getfield idx, 3)) (kk : X φ (RepH cy h) k n (pc + 3) L (v :: st)) : X φ (RepH cy h) k n pc L (vr (some a) :: st) := by
  obtain ⟨p, l, e, R, s, m, args, below, meth, c, A, nL, D, Q⟩ := φ
  obtain ⟨hx, hb, hr, hml, hown, hts, hlocks, hK, -⟩ := C
  intro H locs ws cells slots ls c1 c2 hI hP hD hS hl
  obtain ⟨q0, hq0⟩ := hI.2 a (by omega)
  rw [cell_obj hk (by decide)] at hq0
  refine va_get (D := D) (ci := 6) (fs := flds h 6 a) (C := RX6) (T := TX6) (N := 12) hx hb hts inlX6 hown hK hP q0 hq0 rfl f hf (hts _ hw) (fun x h => by rw [ho] at h; exact h) hv hd ?_
  exact kk H locs ws cells slots ls c1 c2 hI hP hD hS hl
theorem h_put6 {f idx a : Nat} {v : Value} {ty : FieldType} {h' : HS} (C : Cx φ cc own ret cy) (hk : kD h a = 7) (hf : f < 12) (hw : Cond.fieldLink own idx "VisitorLoom" (TX6 f).2.1 (TX6 f).2.2.1 ∈ wsL_law) (ho : (TX6 f).1 = "VisitorLoom") (hfin : (TX6 f).2.2.2 = false) (hty : parseFieldDescriptor (TX6 f).2.2.1 = some ty) (hfit : fits ty v = true ∧ narrow ty v = v) (hc' : cellOf cy h' a = .inr (6, (flds h 6 a).set f v)) (hkd : ∀ x, kD h' x = kD h x) (hoth : ∀ x, x ≠ a → cellOf cy h' x = cellOf cy h x) (hd : decode cc pc = .ok (.putfield idx, 3)) (kk : X φ (RepH cy h') k n (pc + 3) L st) : X φ (RepH cy h) k n pc L (v :: vr (some a) :: st) := by
  obtain ⟨p, l, e, R, s, m, args, below, meth, c, A, nL, D, Q⟩ := φ
  obtain ⟨hx, hb, hr, hml, hown, hts, hlocks, hK, -⟩ := C
  intro H locs ws cells slots ls c1 c2 hI hP hD hS hl
  obtain ⟨q0, hq0⟩ := hI.2 a (by omega)
  rw [cell_obj hk (by decide)] at hq0
  refine va_put (D := D) (ci := 6) (fs := flds h 6 a) (C := RX6) (T := TX6) (N := 12) hx hb hts inlX6 tyX6 tyX6_ok nmX6 hown hK hP hD hS q0 hq0 rfl f hf (hts _ hw) (fun x h => by rw [ho] at h; exact h) hfin hty hfit.2 hfit.1 hf hd (fun H1 locs1 hP1 hD1 hS1 => ?_)
  exact kk H1 locs1 _ cells slots ls c1 c2 (hI.upd hD hq0 hkd hc' hoth) hP1 hD1 hS1 hl
theorem h_put6F {f idx a : Nat} {v : Value} {ty : FieldType} {h' : HS} (C : Cx φ cc own ret cy) (hin : methIni φ) (hown2 : own = "VisitorLoom") (hk : kD h a = 7) (hf : f < 12) (hw : Cond.fieldLink own idx "VisitorLoom" (TX6 f).2.1 (TX6 f).2.2.1 ∈ wsL_law) (ho : (TX6 f).1 = "VisitorLoom") (hfin : (TX6 f).2.2.2 = true) (hty : parseFieldDescriptor (TX6 f).2.2.1 = some ty) (hfit : fits ty v = true ∧ narrow ty v = v) (hc' : cellOf cy h' a = .inr (6, (flds h 6 a).set f v)) (hkd : ∀ x, kD h' x = kD h x) (hoth : ∀ x, x ≠ a → cellOf cy h' x = cellOf cy h x) (hd : decode cc pc = .ok (.putfield idx, 3)) (kk : X φ (RepH cy h') k n (pc + 3) L st) : X φ (RepH cy h) k n pc L (v :: vr (some a) :: st) := by
  obtain ⟨p, l, e, R, s, m, args, below, meth, c, A, nL, D, Q⟩ := φ
  obtain ⟨hx, hb, hr, hml, hown, hts, hlocks, hK, -⟩ := C
  intro H locs ws cells slots ls c1 c2 hI hP hD hS hl
  obtain ⟨q0, hq0⟩ := hI.2 a (by omega)
  rw [cell_obj hk (by decide)] at hq0
  refine va_putF (D := D) (ci := 6) (fs := flds h 6 a) (C := RX6) (T := TX6) (N := 12) hx hb hts inlX6 tyX6 tyX6_ok nmX6 hown hK hP hD hS q0 hq0 rfl f hf (hts _ hw) (fun x h => by rw [ho] at h; exact h) hfin hin (by rw [ho, hown2]) hty hfit.2 hfit.1 hf hd (fun H1 locs1 hP1 hD1 hS1 => ?_)
  exact kk H1 locs1 _ cells slots ls c1 c2 (hI.upd hD hq0 hkd hc' hoth) hP1 hD1 hS1 hl
theorem h_new6 {idx : Nat} (C : Cx φ cc own ret cy) (hR0 : ROf φ = R0) (hcl : Cond.classLink own idx "VisitorLoom" ∈ wsL_law) (hins : Cond.instantiable "VisitorLoom" 12 ∈ wsL_law) (hini : Cond.initialized "VisitorLoom" ∈ wsL_law) (hcell : k + 1 ≤ R0.cells ∧ n + 12 ≤ R0.slots) (hd : decode cc pc = .ok (.new idx, 3)) (kk : ∀ q : Nat, kD h q = 0 → X φ (RepH cy (newO h 7 q)) (k + 1) (n + 12) (pc + 3) L (vr (some q) :: st)) : X φ (RepH cy h) k n pc L st := by
  obtain ⟨p, l, e, R, s, m, args, below, meth, c, A, nL, D, Q⟩ := φ
  obtain ⟨hx, hb, hr, hml, hown, hts, hlocks, hK, hA, -⟩ := C
  have hR : R = R0 := hR0
  subst hR
  intro H locs ws cells slots ls c1 c2 hI hP hD hS hl
  refine va_new (D := D) (ci := 6) (fs := [.null, .null, .null, .null, .null, .null, .null, .int 0, .int 0, .int 0, .int 0, .int 0]) (C := RX6) (T := TX6) (N := 12) hx hb hts inlX6 tyX6 tyX6_ok hown (hts _ hcl) (hts _ hins) (hts _ hini) hK hP hD hS hA rfl (fun j hj => ?_) (by omega) (by omega) hd (fun q H1 hP1 hD1 hS1 => ?_)
  · rcases (show j = 0 ∨ j = 1 ∨ j = 2 ∨ j = 3 ∨ j = 4 ∨ j = 5 ∨ j = 6 ∨ j = 7 ∨ j = 8 ∨ j = 9 ∨ j = 10 ∨ j = 11 by omega) with rfl | rfl | rfl | rfl | rfl | rfl | rfl | rfl | rfl | rfl | rfl | rfl <;> rfl
  · obtain ⟨g1, g2⟩ := hI.push (h' := newO h 7 q) hD1 (by simp [kD, newO]) (by simp [cellOf, newO, kD, flds, fI, fP, vi, vr]; try rfl) (fun x hx => by simp [kD, newO, hx]) (fun x hx => cell_newO_ne hx)
    exact kk q g2 H1 locs _ _ _ ls (Nat.add_le_add_right c1 1) (Nat.add_le_add_right c2 12) g1 hP1 hD1 hS1 hl

theorem h_alen {a : Nat} (C : Cx φ cc own ret cy) (hk : kD h a = 8 ∨ kD h a = 9 ∨ kD h a = 10 ∨ kD h a = 11) (hd : decode cc pc = .ok (.arraylength, 1)) (kk : X φ (RepH cy h) k n (pc + 1) L (vi (ln h a : Int) :: st)) : X φ (RepH cy h) k n pc L (vr (some a) :: st) := by
  obtain ⟨p, l, e, R, s, m, args, below, meth, c, A, nL, D, Q⟩ := φ
  obtain ⟨hx, hb, hr, hml, hown, hts, hlocks, hK, -⟩ := C
  intro H locs ws cells slots ls c1 c2 hI hP hD hS hl
  obtain ⟨q0, hq0⟩ := hI.2 a (by omega)
  have hv : Int32.ofNat (ln h a) = Int32.ofInt (ln h a : Int) := Int32.ofInt_eq_ofNat.symm
  have hkk := kk H locs ws cells slots ls c1 c2 hI hP hD hS hl
  rcases hk with hk | hk | hk | hk
  · rw [show cellOf cy h a = .inl (cy.1, ln h a, .inl (fun i : Nat => Int32.ofInt (aI h a i))) by simp [cellOf, hk]] at hq0
    exact va_alen hx hb hK hP q0 0 hq0 rfl hv hd hkk
  · rw [show cellOf cy h a = .inl (cy.2.1, ln h a, .inl (fun i : Nat => Int32.ofInt (aI h a i))) by simp [cellOf, hk]] at hq0
    exact va_alen hx hb hK hP q0 1 hq0 rfl hv hd hkk
  · rw [show cellOf cy h a = .inl (cy.2.2.1, ln h a, .inr (.inr (.inr (.inr (fun i : Nat => aR h a i))))) by simp [cellOf, hk]] at hq0
    exact va_alen hx hb hK hP q0 2 hq0 rfl hv hd hkk
  · rw [show cellOf cy h a = .inl (cy.2.2.2.1, ln h a, .inr (.inr (.inr (.inr (fun i : Nat => aR h a i))))) by simp [cellOf, hk]] at hq0
    exact va_alen hx hb hK hP q0 3 hq0 rfl hv hd hkk
theorem h_iald {a : Nat} {j : Int} (C : Cx φ cc own ret cy) (hk : kD h a = 8) (hj : 0 ≤ j ∧ j < ln h a) (hn : (ln h a : Int) ≤ 2147483647) (hd : decode cc pc = .ok (.iaload, 1)) (kk : X φ (RepH cy h) k n (pc + 1) L (vi (aI h a j) :: st)) : X φ (RepH cy h) k n pc L (vi j :: vr (some a) :: st) := by
  obtain ⟨p, l, e, R, s, m, args, below, meth, c, A, nL, D, Q⟩ := φ
  obtain ⟨hx, hb, hr, hml, hown, hts, hlocks, hK, -⟩ := C
  intro H locs ws cells slots ls c1 c2 hI hP hD hS hl
  obtain ⟨q0, hq0⟩ := hI.2 a (by omega)
  rw [show cellOf cy h a = .inl (cy.1, ln h a, .inl (fun i : Nat => Int32.ofInt (aI h a i))) by simp [cellOf, hk]] at hq0
  have hc := i32_clamp (a := j) hj.1 (by omega)
  refine va_iald hx hb hK hP q0 0 hq0 rfl (vp_in_iff.mpr (by rw [Int32.toInt_ofInt_of_le (by omega) (by omega)]; exact hj)) hd ?_
  rw [hc, show ((j.toNat : Nat) : Int) = j from Int.toNat_of_nonneg hj.1]
  exact kk H locs ws cells slots ls c1 c2 hI hP hD hS hl
theorem h_zald {a : Nat} {j : Int} (C : Cx φ cc own ret cy) (hk : kD h a = 9) (hj : 0 ≤ j ∧ j < ln h a) (hn : (ln h a : Int) ≤ 2147483647) (hd : decode cc pc = .ok (.baload, 1)) (kk : X φ (RepH cy h) k n (pc + 1) L (vi (aI h a j) :: st)) : X φ (RepH cy h) k n pc L (vi j :: vr (some a) :: st) := by
  obtain ⟨p, l, e, R, s, m, args, below, meth, c, A, nL, D, Q⟩ := φ
  obtain ⟨hx, hb, hr, hml, hown, hts, hlocks, hK, -⟩ := C
  intro H locs ws cells slots ls c1 c2 hI hP hD hS hl
  obtain ⟨q0, hq0⟩ := hI.2 a (by omega)
  rw [show cellOf cy h a = .inl (cy.2.1, ln h a, .inl (fun i : Nat => Int32.ofInt (aI h a i))) by simp [cellOf, hk]] at hq0
  have hc := i32_clamp (a := j) hj.1 (by omega)
  refine va_zald hx hb hK hP q0 1 hq0 rfl (vp_in_iff.mpr (by rw [Int32.toInt_ofInt_of_le (by omega) (by omega)]; exact hj)) hd ?_
  rw [hc, show ((j.toNat : Nat) : Int) = j from Int.toNat_of_nonneg hj.1]
  exact kk H locs ws cells slots ls c1 c2 hI hP hD hS hl
theorem h_iast {a : Nat} {j z : Int} (C : Cx φ cc own ret cy) (hk : kD h a = 8) (hj : 0 ≤ j ∧ j < ln h a) (hn : (ln h a : Int) ≤ 2147483647) (hd : decode cc pc = .ok (.iastore, 1)) (kk : X φ (RepH cy (setA h a j z)) k n (pc + 1) L st) : X φ (RepH cy h) k n pc L (vi z :: vi j :: vr (some a) :: st) := by
  obtain ⟨p, l, e, R, s, m, args, below, meth, c, A, nL, D, Q⟩ := φ
  obtain ⟨hx, hb, hr, hml, hown, hts, hlocks, hK, -⟩ := C
  intro H locs ws cells slots ls c1 c2 hI hP hD hS hl
  obtain ⟨q0, hq0⟩ := hI.2 a (by omega)
  rw [show cellOf cy h a = .inl (cy.1, ln h a, .inl (fun i : Nat => Int32.ofInt (aI h a i))) by simp [cellOf, hk]] at hq0
  have hc := i32_clamp (a := j) hj.1 (by omega)
  refine va_iast hx hb hK hP hD hS q0 0 hq0 rfl (vp_in_iff.mpr (by rw [Int32.toInt_ofInt_of_le (by omega) (by omega)]; exact hj)) hd (fun H1 locs1 hP1 hD1 hS1 => ?_)
  rw [hc] at hP1 hD1
  rw [upd_int (aI h a) hj.1] at hP1 hD1
  refine kk H1 locs1 _ cells slots ls c1 c2 (hI.upd hD hq0 (fun _ => rfl) ?_ (fun x hx => cell_setA_ne hx)) hP1 hD1 hS1 hl
  have e1 : cellOf cy (setA h a j z) a = .inl (cy.1, ln h a, .inl (fun i : Nat => Int32.ofInt (aI (setA h a j z) a i))) := by
    have hk' : kD (setA h a j z) a = 8 := hk
    simp [cellOf, hk']
    rfl
  rw [e1]
  simp [aI_setA]
theorem h_zast {a : Nat} {j z : Int} (C : Cx φ cc own ret cy) (hk : kD h a = 9) (hj : 0 ≤ j ∧ j < ln h a) (hn : (ln h a : Int) ≤ 2147483647) (hz : z = 0 ∨ z = 1) (hd : decode cc pc = .ok (.bastore, 1)) (kk : X φ (RepH cy (setA h a j z)) k n (pc + 1) L st) : X φ (RepH cy h) k n pc L (vi z :: vi j :: vr (some a) :: st) := by
  obtain ⟨p, l, e, R, s, m, args, below, meth, c, A, nL, D, Q⟩ := φ
  obtain ⟨hx, hb, hr, hml, hown, hts, hlocks, hK, -⟩ := C
  intro H locs ws cells slots ls c1 c2 hI hP hD hS hl
  obtain ⟨q0, hq0⟩ := hI.2 a (by omega)
  rw [show cellOf cy h a = .inl (cy.2.1, ln h a, .inl (fun i : Nat => Int32.ofInt (aI h a i))) by simp [cellOf, hk]] at hq0
  have hc := i32_clamp (a := j) hj.1 (by omega)
  refine va_zast hx hb hK hP hD hS q0 1 hq0 rfl (vp_in_iff.mpr (by rw [Int32.toInt_ofInt_of_le (by omega) (by omega)]; exact hj)) hd (fun H1 locs1 hP1 hD1 hS1 => ?_)
  rw [hc, nar01 hz] at hP1 hD1
  rw [upd_int (aI h a) hj.1] at hP1 hD1
  refine kk H1 locs1 _ cells slots ls c1 c2 (hI.upd hD hq0 (fun _ => rfl) ?_ (fun x hx => cell_setA_ne hx)) hP1 hD1 hS1 hl
  have e1 : cellOf cy (setA h a j z) a = .inl (cy.2.1, ln h a, .inl (fun i : Nat => Int32.ofInt (aI (setA h a j z) a i))) := by
    have hk' : kD (setA h a j z) a = 9 := hk
    simp [cellOf, hk']
    rfl
  rw [e1]
  simp [aI_setA]
theorem h_aaldC {a : Nat} {j : Int} (C : Cx φ cc own ret cy) (hk : kD h a = 10) (hj : 0 ≤ j ∧ j < ln h a) (hn : (ln h a : Int) ≤ 2147483647) (hd : decode cc pc = .ok (.aaload, 1)) (kk : X φ (RepH cy h) k n (pc + 1) L (vr (aR h a j) :: st)) : X φ (RepH cy h) k n pc L (vi j :: vr (some a) :: st) := by
  obtain ⟨p, l, e, R, s, m, args, below, meth, c, A, nL, D, Q⟩ := φ
  obtain ⟨hx, hb, hr, hml, hown, hts, hlocks, hK, -⟩ := C
  intro H locs ws cells slots ls c1 c2 hI hP hD hS hl
  obtain ⟨q0, hq0⟩ := hI.2 a (by omega)
  rw [show cellOf cy h a = .inl (cy.2.2.1, ln h a, .inr (.inr (.inr (.inr (fun i : Nat => aR h a i))))) by simp [cellOf, hk]] at hq0
  have hc := i32_clamp (a := j) hj.1 (by omega)
  refine va_aldq hx hb hK hP q0 2 hq0 rfl (vp_in_iff.mpr (by rw [Int32.toInt_ofInt_of_le (by omega) (by omega)]; exact hj)) hd ?_
  rw [hc, show ((j.toNat : Nat) : Int) = j from Int.toNat_of_nonneg hj.1]
  exact kk H locs ws cells slots ls c1 c2 hI hP hD hS hl
theorem h_aaldN {a : Nat} {j : Int} (C : Cx φ cc own ret cy) (hk : kD h a = 11) (hj : 0 ≤ j ∧ j < ln h a) (hn : (ln h a : Int) ≤ 2147483647) (hd : decode cc pc = .ok (.aaload, 1)) (kk : X φ (RepH cy h) k n (pc + 1) L (vr (aR h a j) :: st)) : X φ (RepH cy h) k n pc L (vi j :: vr (some a) :: st) := by
  obtain ⟨p, l, e, R, s, m, args, below, meth, c, A, nL, D, Q⟩ := φ
  obtain ⟨hx, hb, hr, hml, hown, hts, hlocks, hK, -⟩ := C
  intro H locs ws cells slots ls c1 c2 hI hP hD hS hl
  obtain ⟨q0, hq0⟩ := hI.2 a (by omega)
  rw [show cellOf cy h a = .inl (cy.2.2.2.1, ln h a, .inr (.inr (.inr (.inr (fun i : Nat => aR h a i))))) by simp [cellOf, hk]] at hq0
  have hc := i32_clamp (a := j) hj.1 (by omega)
  refine va_aldq hx hb hK hP q0 3 hq0 rfl (vp_in_iff.mpr (by rw [Int32.toInt_ofInt_of_le (by omega) (by omega)]; exact hj)) hd ?_
  rw [hc, show ((j.toNat : Nat) : Int) = j from Int.toNat_of_nonneg hj.1]
  exact kk H locs ws cells slots ls c1 c2 hI hP hD hS hl
theorem h_aastC {a : Nat} {j : Int} {o : Option Nat} (C : Cx φ cc own ret cy) (hk : kD h a = 10) (hj : 0 ≤ j ∧ j < ln h a) (hn : (ln h a : Int) ≤ 2147483647) (ho : ∀ v, o = some v → kD h v = 1) (hd : decode cc pc = .ok (.aastore, 1)) (kk : X φ (RepH cy (setR h a j o)) k n (pc + 1) L st) : X φ (RepH cy h) k n pc L (vr o :: vi j :: vr (some a) :: st) := by
  obtain ⟨p, l, e, R, s, m, args, below, meth, c, A, nL, D, Q⟩ := φ
  obtain ⟨hx, hb, hr, hml, hown, hts, hlocks, hK, -⟩ := C
  intro H locs ws cells slots ls c1 c2 hI hP hD hS hl
  obtain ⟨q0, hq0⟩ := hI.2 a (by omega)
  rw [show cellOf cy h a = .inl (cy.2.2.1, ln h a, .inr (.inr (.inr (.inr (fun i : Nat => aR h a i))))) by simp [cellOf, hk]] at hq0
  have hc := i32_clamp (a := j) hj.1 (by omega)
  have e1 : cellOf cy (setR h a j o) a = .inl (cy.2.2.1, ln h a, .inr (.inr (.inr (.inr (fun i : Nat => if (i : Int) = j then o else aR h a i))))) := by
    have hk' : kD (setR h a j o) a = 10 := hk
    simp [cellOf, hk', aR_setR]
    rfl
  cases o with
  | none =>
    refine va_astqN hx hb hK hP hD hS q0 2 hq0 rfl (vp_in_iff.mpr (by rw [Int32.toInt_ofInt_of_le (by omega) (by omega)]; exact hj)) hd (fun H1 locs1 hP1 hD1 hS1 => ?_)
    rw [hc, va_up_ref (aR h a) hj.1] at hP1 hD1
    exact kk H1 locs1 _ cells slots ls c1 c2 (hI.upd hD hq0 (fun _ => rfl) e1 (fun x hx => cell_setR_ne hx)) hP1 hD1 hS1 hl
  | some v =>
    obtain ⟨qk, hqk⟩ := hI.2 v (by have := ho v rfl; omega)
    rw [cell_obj (ho v rfl) (by decide)] at hqk
    refine va_astq hx hb hK hP hD hS q0 2 qk 0 hq0 rfl hqk rfl (vp_in_iff.mpr (by rw [Int32.toInt_ofInt_of_le (by omega) (by omega)]; exact hj)) hd (fun H1 locs1 hP1 hD1 hS1 => ?_)
    rw [hc, va_up_ref (aR h a) hj.1] at hP1 hD1
    exact kk H1 locs1 _ cells slots ls c1 c2 (hI.upd hD hq0 (fun _ => rfl) e1 (fun x hx => cell_setR_ne hx)) hP1 hD1 hS1 hl
theorem h_aastN {a : Nat} {j : Int} {o : Option Nat} (C : Cx φ cc own ret cy) (hk : kD h a = 11) (hj : 0 ≤ j ∧ j < ln h a) (hn : (ln h a : Int) ≤ 2147483647) (ho : ∀ v, o = some v → kD h v = 5) (hd : decode cc pc = .ok (.aastore, 1)) (kk : X φ (RepH cy (setR h a j o)) k n (pc + 1) L st) : X φ (RepH cy h) k n pc L (vr o :: vi j :: vr (some a) :: st) := by
  obtain ⟨p, l, e, R, s, m, args, below, meth, c, A, nL, D, Q⟩ := φ
  obtain ⟨hx, hb, hr, hml, hown, hts, hlocks, hK, -⟩ := C
  intro H locs ws cells slots ls c1 c2 hI hP hD hS hl
  obtain ⟨q0, hq0⟩ := hI.2 a (by omega)
  rw [show cellOf cy h a = .inl (cy.2.2.2.1, ln h a, .inr (.inr (.inr (.inr (fun i : Nat => aR h a i))))) by simp [cellOf, hk]] at hq0
  have hc := i32_clamp (a := j) hj.1 (by omega)
  have e1 : cellOf cy (setR h a j o) a = .inl (cy.2.2.2.1, ln h a, .inr (.inr (.inr (.inr (fun i : Nat => if (i : Int) = j then o else aR h a i))))) := by
    have hk' : kD (setR h a j o) a = 11 := hk
    simp [cellOf, hk', aR_setR]
    rfl
  cases o with
  | none =>
    refine va_astqN hx hb hK hP hD hS q0 3 hq0 rfl (vp_in_iff.mpr (by rw [Int32.toInt_ofInt_of_le (by omega) (by omega)]; exact hj)) hd (fun H1 locs1 hP1 hD1 hS1 => ?_)
    rw [hc, va_up_ref (aR h a) hj.1] at hP1 hD1
    exact kk H1 locs1 _ cells slots ls c1 c2 (hI.upd hD hq0 (fun _ => rfl) e1 (fun x hx => cell_setR_ne hx)) hP1 hD1 hS1 hl
  | some v =>
    obtain ⟨qk, hqk⟩ := hI.2 v (by have := ho v rfl; omega)
    rw [cell_obj (ho v rfl) (by decide)] at hqk
    refine va_astq hx hb hK hP hD hS q0 3 qk 4 hq0 rfl hqk rfl (vp_in_iff.mpr (by rw [Int32.toInt_ofInt_of_le (by omega) (by omega)]; exact hj)) hd (fun H1 locs1 hP1 hD1 hS1 => ?_)
    rw [hc, va_up_ref (aR h a) hj.1] at hP1 hD1
    exact kk H1 locs1 _ cells slots ls c1 c2 (hI.upd hD hq0 (fun _ => rfl) e1 (fun x hx => cell_setR_ne hx)) hP1 hD1 hS1 hl

end HRules
theorem cs0_0 {cy : CY} {h : HS} {a : Nat} {z : Int} (hk : kD h a = 1) : cellOf cy (setI h 0 a z) a = .inr (0, (flds h 0 a).set 0 (vi z)) := by
  have hk' : kD (setI h 0 a z) a = 1 := hk
  rw [cell_obj hk' (by decide)]
  simp [flds, fI, fP, setI]
theorem cs0_1 {cy : CY} {h : HS} {a : Nat} {z : Int} (hk : kD h a = 1) : cellOf cy (setI h 1 a z) a = .inr (0, (flds h 0 a).set 1 (vi z)) := by
  have hk' : kD (setI h 1 a z) a = 1 := hk
  rw [cell_obj hk' (by decide)]
  simp [flds, fI, fP, setI]
theorem cs0_2 {cy : CY} {h : HS} {a : Nat} {z : Option Nat} (hk : kD h a = 1) : cellOf cy (setP h 2 a z) a = .inr (0, (flds h 0 a).set 2 (vr z)) := by
  have hk' : kD (setP h 2 a z) a = 1 := hk
  rw [cell_obj hk' (by decide)]
  simp [flds, fI, fP, setP]
theorem cs1_0 {cy : CY} {h : HS} {a : Nat} {z : Int} (hk : kD h a = 2) : cellOf cy (setI h 10 a z) a = .inr (1, (flds h 1 a).set 0 (vi z)) := by
  have hk' : kD (setI h 10 a z) a = 2 := hk
  rw [cell_obj hk' (by decide)]
  simp [flds, fI, fP, setI]
theorem cs1_1 {cy : CY} {h : HS} {a : Nat} {z : Option Nat} (hk : kD h a = 2) : cellOf cy (setP h 11 a z) a = .inr (1, (flds h 1 a).set 1 (vr z)) := by
  have hk' : kD (setP h 11 a z) a = 2 := hk
  rw [cell_obj hk' (by decide)]
  simp [flds, fI, fP, setP]
theorem cs1_2 {cy : CY} {h : HS} {a : Nat} {z : Option Nat} (hk : kD h a = 2) : cellOf cy (setP h 12 a z) a = .inr (1, (flds h 1 a).set 2 (vr z)) := by
  have hk' : kD (setP h 12 a z) a = 2 := hk
  rw [cell_obj hk' (by decide)]
  simp [flds, fI, fP, setP]
theorem cs1_3 {cy : CY} {h : HS} {a : Nat} {z : Int} (hk : kD h a = 2) : cellOf cy (setI h 13 a z) a = .inr (1, (flds h 1 a).set 3 (vi z)) := by
  have hk' : kD (setI h 13 a z) a = 2 := hk
  rw [cell_obj hk' (by decide)]
  simp [flds, fI, fP, setI]
theorem cs1_4 {cy : CY} {h : HS} {a : Nat} {z : Int} (hk : kD h a = 2) : cellOf cy (setI h 14 a z) a = .inr (1, (flds h 1 a).set 4 (vi z)) := by
  have hk' : kD (setI h 14 a z) a = 2 := hk
  rw [cell_obj hk' (by decide)]
  simp [flds, fI, fP, setI]
theorem cs1_5 {cy : CY} {h : HS} {a : Nat} {z : Int} (hk : kD h a = 2) : cellOf cy (setI h 15 a z) a = .inr (1, (flds h 1 a).set 5 (vi z)) := by
  have hk' : kD (setI h 15 a z) a = 2 := hk
  rw [cell_obj hk' (by decide)]
  simp [flds, fI, fP, setI]
theorem cs1_6 {cy : CY} {h : HS} {a : Nat} {z : Int} (hk : kD h a = 2) : cellOf cy (setI h 16 a z) a = .inr (1, (flds h 1 a).set 6 (vi z)) := by
  have hk' : kD (setI h 16 a z) a = 2 := hk
  rw [cell_obj hk' (by decide)]
  simp [flds, fI, fP, setI]
theorem cs1_7 {cy : CY} {h : HS} {a : Nat} {z : Int} (hk : kD h a = 2) : cellOf cy (setI h 17 a z) a = .inr (1, (flds h 1 a).set 7 (vi z)) := by
  have hk' : kD (setI h 17 a z) a = 2 := hk
  rw [cell_obj hk' (by decide)]
  simp [flds, fI, fP, setI]
theorem cs1_8 {cy : CY} {h : HS} {a : Nat} {z : Option Nat} (hk : kD h a = 2) : cellOf cy (setP h 18 a z) a = .inr (1, (flds h 1 a).set 8 (vr z)) := by
  have hk' : kD (setP h 18 a z) a = 2 := hk
  rw [cell_obj hk' (by decide)]
  simp [flds, fI, fP, setP]
theorem cs2_0 {cy : CY} {h : HS} {a : Nat} {z : Option Nat} (hk : kD h a = 3) : cellOf cy (setP h 20 a z) a = .inr (2, (flds h 2 a).set 0 (vr z)) := by
  have hk' : kD (setP h 20 a z) a = 3 := hk
  rw [cell_obj hk' (by decide)]
  simp [flds, fI, fP, setP]
theorem cs2_1 {cy : CY} {h : HS} {a : Nat} {z : Option Nat} (hk : kD h a = 3) : cellOf cy (setP h 21 a z) a = .inr (2, (flds h 2 a).set 1 (vr z)) := by
  have hk' : kD (setP h 21 a z) a = 3 := hk
  rw [cell_obj hk' (by decide)]
  simp [flds, fI, fP, setP]
theorem cs3_0 {cy : CY} {h : HS} {a : Nat} {z : Int} (hk : kD h a = 4) : cellOf cy (setI h 30 a z) a = .inr (3, (flds h 3 a).set 0 (vi z)) := by
  have hk' : kD (setI h 30 a z) a = 4 := hk
  rw [cell_obj hk' (by decide)]
  simp [flds, fI, fP, setI]
theorem cs3_1 {cy : CY} {h : HS} {a : Nat} {z : Int} (hk : kD h a = 4) : cellOf cy (setI h 31 a z) a = .inr (3, (flds h 3 a).set 1 (vi z)) := by
  have hk' : kD (setI h 31 a z) a = 4 := hk
  rw [cell_obj hk' (by decide)]
  simp [flds, fI, fP, setI]
theorem cs3_2 {cy : CY} {h : HS} {a : Nat} {z : Int} (hk : kD h a = 4) : cellOf cy (setI h 32 a z) a = .inr (3, (flds h 3 a).set 2 (vi z)) := by
  have hk' : kD (setI h 32 a z) a = 4 := hk
  rw [cell_obj hk' (by decide)]
  simp [flds, fI, fP, setI]
theorem cs3_3 {cy : CY} {h : HS} {a : Nat} {z : Int} (hk : kD h a = 4) : cellOf cy (setI h 33 a z) a = .inr (3, (flds h 3 a).set 3 (vi z)) := by
  have hk' : kD (setI h 33 a z) a = 4 := hk
  rw [cell_obj hk' (by decide)]
  simp [flds, fI, fP, setI]
theorem cs3_4 {cy : CY} {h : HS} {a : Nat} {z : Int} (hk : kD h a = 4) : cellOf cy (setI h 34 a z) a = .inr (3, (flds h 3 a).set 4 (vi z)) := by
  have hk' : kD (setI h 34 a z) a = 4 := hk
  rw [cell_obj hk' (by decide)]
  simp [flds, fI, fP, setI]
theorem cs3_5 {cy : CY} {h : HS} {a : Nat} {z : Int} (hk : kD h a = 4) : cellOf cy (setI h 35 a z) a = .inr (3, (flds h 3 a).set 5 (vi z)) := by
  have hk' : kD (setI h 35 a z) a = 4 := hk
  rw [cell_obj hk' (by decide)]
  simp [flds, fI, fP, setI]
theorem cs3_6 {cy : CY} {h : HS} {a : Nat} {z : Option Nat} (hk : kD h a = 4) : cellOf cy (setP h 36 a z) a = .inr (3, (flds h 3 a).set 6 (vr z)) := by
  have hk' : kD (setP h 36 a z) a = 4 := hk
  rw [cell_obj hk' (by decide)]
  simp [flds, fI, fP, setP]
theorem cs4_0 {cy : CY} {h : HS} {a : Nat} {z : Int} (hk : kD h a = 5) : cellOf cy (setI h 40 a z) a = .inr (4, (flds h 4 a).set 0 (vi z)) := by
  have hk' : kD (setI h 40 a z) a = 5 := hk
  rw [cell_obj hk' (by decide)]
  simp [flds, fI, fP, setI]
theorem cs4_1 {cy : CY} {h : HS} {a : Nat} {z : Option Nat} (hk : kD h a = 5) : cellOf cy (setP h 41 a z) a = .inr (4, (flds h 4 a).set 1 (vr z)) := by
  have hk' : kD (setP h 41 a z) a = 5 := hk
  rw [cell_obj hk' (by decide)]
  simp [flds, fI, fP, setP]
theorem cs4_2 {cy : CY} {h : HS} {a : Nat} {z : Option Nat} (hk : kD h a = 5) : cellOf cy (setP h 42 a z) a = .inr (4, (flds h 4 a).set 2 (vr z)) := by
  have hk' : kD (setP h 42 a z) a = 5 := hk
  rw [cell_obj hk' (by decide)]
  simp [flds, fI, fP, setP]
theorem cs4_3 {cy : CY} {h : HS} {a : Nat} {z : Int} (hk : kD h a = 5) : cellOf cy (setI h 43 a z) a = .inr (4, (flds h 4 a).set 3 (vi z)) := by
  have hk' : kD (setI h 43 a z) a = 5 := hk
  rw [cell_obj hk' (by decide)]
  simp [flds, fI, fP, setI]
theorem cs4_4 {cy : CY} {h : HS} {a : Nat} {z : Int} (hk : kD h a = 5) : cellOf cy (setI h 44 a z) a = .inr (4, (flds h 4 a).set 4 (vi z)) := by
  have hk' : kD (setI h 44 a z) a = 5 := hk
  rw [cell_obj hk' (by decide)]
  simp [flds, fI, fP, setI]
theorem cs4_5 {cy : CY} {h : HS} {a : Nat} {z : Int} (hk : kD h a = 5) : cellOf cy (setI h 45 a z) a = .inr (4, (flds h 4 a).set 5 (vi z)) := by
  have hk' : kD (setI h 45 a z) a = 5 := hk
  rw [cell_obj hk' (by decide)]
  simp [flds, fI, fP, setI]
theorem cs4_6 {cy : CY} {h : HS} {a : Nat} {z : Int} (hk : kD h a = 5) : cellOf cy (setI h 46 a z) a = .inr (4, (flds h 4 a).set 6 (vi z)) := by
  have hk' : kD (setI h 46 a z) a = 5 := hk
  rw [cell_obj hk' (by decide)]
  simp [flds, fI, fP, setI]
theorem cs5_0 {cy : CY} {h : HS} {a : Nat} {z : Int} (hk : kD h a = 6) : cellOf cy (setI h 50 a z) a = .inr (5, (flds h 5 a).set 0 (vi z)) := by
  have hk' : kD (setI h 50 a z) a = 6 := hk
  rw [cell_obj hk' (by decide)]
  simp [flds, fI, fP, setI]
theorem cs5_1 {cy : CY} {h : HS} {a : Nat} {z : Int} (hk : kD h a = 6) : cellOf cy (setI h 51 a z) a = .inr (5, (flds h 5 a).set 1 (vi z)) := by
  have hk' : kD (setI h 51 a z) a = 6 := hk
  rw [cell_obj hk' (by decide)]
  simp [flds, fI, fP, setI]
theorem cs5_2 {cy : CY} {h : HS} {a : Nat} {z : Int} (hk : kD h a = 6) : cellOf cy (setI h 52 a z) a = .inr (5, (flds h 5 a).set 2 (vi z)) := by
  have hk' : kD (setI h 52 a z) a = 6 := hk
  rw [cell_obj hk' (by decide)]
  simp [flds, fI, fP, setI]
theorem cs5_3 {cy : CY} {h : HS} {a : Nat} {z : Int} (hk : kD h a = 6) : cellOf cy (setI h 53 a z) a = .inr (5, (flds h 5 a).set 3 (vi z)) := by
  have hk' : kD (setI h 53 a z) a = 6 := hk
  rw [cell_obj hk' (by decide)]
  simp [flds, fI, fP, setI]
theorem cs5_4 {cy : CY} {h : HS} {a : Nat} {z : Int} (hk : kD h a = 6) : cellOf cy (setI h 54 a z) a = .inr (5, (flds h 5 a).set 4 (vi z)) := by
  have hk' : kD (setI h 54 a z) a = 6 := hk
  rw [cell_obj hk' (by decide)]
  simp [flds, fI, fP, setI]
theorem cs6_0 {cy : CY} {h : HS} {a : Nat} {z : Option Nat} (hk : kD h a = 7) : cellOf cy (setP h 60 a z) a = .inr (6, (flds h 6 a).set 0 (vr z)) := by
  have hk' : kD (setP h 60 a z) a = 7 := hk
  rw [cell_obj hk' (by decide)]
  simp [flds, fI, fP, setP]
theorem cs6_1 {cy : CY} {h : HS} {a : Nat} {z : Option Nat} (hk : kD h a = 7) : cellOf cy (setP h 61 a z) a = .inr (6, (flds h 6 a).set 1 (vr z)) := by
  have hk' : kD (setP h 61 a z) a = 7 := hk
  rw [cell_obj hk' (by decide)]
  simp [flds, fI, fP, setP]
theorem cs6_2 {cy : CY} {h : HS} {a : Nat} {z : Option Nat} (hk : kD h a = 7) : cellOf cy (setP h 62 a z) a = .inr (6, (flds h 6 a).set 2 (vr z)) := by
  have hk' : kD (setP h 62 a z) a = 7 := hk
  rw [cell_obj hk' (by decide)]
  simp [flds, fI, fP, setP]
theorem cs6_3 {cy : CY} {h : HS} {a : Nat} {z : Option Nat} (hk : kD h a = 7) : cellOf cy (setP h 63 a z) a = .inr (6, (flds h 6 a).set 3 (vr z)) := by
  have hk' : kD (setP h 63 a z) a = 7 := hk
  rw [cell_obj hk' (by decide)]
  simp [flds, fI, fP, setP]
theorem cs6_4 {cy : CY} {h : HS} {a : Nat} {z : Option Nat} (hk : kD h a = 7) : cellOf cy (setP h 64 a z) a = .inr (6, (flds h 6 a).set 4 (vr z)) := by
  have hk' : kD (setP h 64 a z) a = 7 := hk
  rw [cell_obj hk' (by decide)]
  simp [flds, fI, fP, setP]
theorem cs6_5 {cy : CY} {h : HS} {a : Nat} {z : Option Nat} (hk : kD h a = 7) : cellOf cy (setP h 65 a z) a = .inr (6, (flds h 6 a).set 5 (vr z)) := by
  have hk' : kD (setP h 65 a z) a = 7 := hk
  rw [cell_obj hk' (by decide)]
  simp [flds, fI, fP, setP]
theorem cs6_6 {cy : CY} {h : HS} {a : Nat} {z : Option Nat} (hk : kD h a = 7) : cellOf cy (setP h 66 a z) a = .inr (6, (flds h 6 a).set 6 (vr z)) := by
  have hk' : kD (setP h 66 a z) a = 7 := hk
  rw [cell_obj hk' (by decide)]
  simp [flds, fI, fP, setP]
theorem cs6_7 {cy : CY} {h : HS} {a : Nat} {z : Int} (hk : kD h a = 7) : cellOf cy (setI h 67 a z) a = .inr (6, (flds h 6 a).set 7 (vi z)) := by
  have hk' : kD (setI h 67 a z) a = 7 := hk
  rw [cell_obj hk' (by decide)]
  simp [flds, fI, fP, setI]
theorem cs6_8 {cy : CY} {h : HS} {a : Nat} {z : Int} (hk : kD h a = 7) : cellOf cy (setI h 68 a z) a = .inr (6, (flds h 6 a).set 8 (vi z)) := by
  have hk' : kD (setI h 68 a z) a = 7 := hk
  rw [cell_obj hk' (by decide)]
  simp [flds, fI, fP, setI]
theorem cs6_9 {cy : CY} {h : HS} {a : Nat} {z : Int} (hk : kD h a = 7) : cellOf cy (setI h 69 a z) a = .inr (6, (flds h 6 a).set 9 (vi z)) := by
  have hk' : kD (setI h 69 a z) a = 7 := hk
  rw [cell_obj hk' (by decide)]
  simp [flds, fI, fP, setI]
theorem cs6_10 {cy : CY} {h : HS} {a : Nat} {z : Int} (hk : kD h a = 7) : cellOf cy (setI h 70 a z) a = .inr (6, (flds h 6 a).set 10 (vi z)) := by
  have hk' : kD (setI h 70 a z) a = 7 := hk
  rw [cell_obj hk' (by decide)]
  simp [flds, fI, fP, setI]
theorem cs6_11 {cy : CY} {h : HS} {a : Nat} {z : Int} (hk : kD h a = 7) : cellOf cy (setI h 71 a z) a = .inr (6, (flds h 6 a).set 11 (vi z)) := by
  have hk' : kD (setI h 71 a z) a = 7 := hk
  rw [cell_obj hk' (by decide)]
  simp [flds, fI, fP, setI]

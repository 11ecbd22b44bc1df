/-! Changes by their cells: a change is put in -/
def CAd (h : HS) : Option Nat → List Nat → Option Nat → Prop
  | o, [], u => o = u
  | o, a :: t, u => o = some a ∧ CAd h (fP h 2 a) t u
def CDt (h : HS) (ow : Nat → Int) (r : Int) : List Nat → List (Int × Int) → Prop
  | [], [] => True
  | a :: t, v :: l => (kD h a = 1 ∧ fI h 0 a = v.1 ∧ fI h 1 a = v.2 ∧ ow a = r) ∧ CDt h ow r t l
  | _, _ => False
theorem CAd_app {h : HS} : ∀ {l1 l2 : List Nat} {p q : Option Nat}, CAd h p (l1 ++ l2) q ↔ ∃ m, CAd h p l1 m ∧ CAd h m l2 q := by
  intro l1
  induction l1 with
  | nil =>
    intro l2 p q
    constructor
    · intro hh; exact ⟨p, rfl, hh⟩
    · rintro ⟨m, h1, h2⟩
      have h1 : p = m := h1
      rw [h1]; exact h2
  | cons e t ih =>
    intro l2 p q
    constructor
    · rintro ⟨h1, h2⟩
      obtain ⟨m, h3, h4⟩ := ih.mp h2
      exact ⟨m, ⟨h1, h3⟩, h4⟩
    · rintro ⟨m, ⟨h1, h3⟩, h4⟩
      exact ⟨h1, ih.mpr ⟨m, h3, h4⟩⟩
theorem CAd_cong {h h' : HS} : ∀ {l : List Nat} {p q : Option Nat}, (∀ e ∈ l, fP h' 2 e = fP h 2 e) → CAd h p l q → CAd h' p l q := by
  intro l
  induction l with
  | nil => intro p q _ hh; exact hh
  | cons e t ih =>
    rintro p q hc ⟨h1, h2⟩
    refine ⟨h1, ?_⟩
    rw [hc e List.mem_cons_self]
    exact ih (fun x hx => hc x (List.mem_cons_of_mem _ hx)) h2
theorem CAd_det {h : HS} : ∀ {l1 l2 : List Nat} {p : Option Nat}, CAd h p l1 none → CAd h p l2 none → l1 = l2 := by
  intro l1
  induction l1 with
  | nil =>
    intro l2 p h1 h2
    have h1 : p = none := h1
    subst h1
    cases l2 with
    | nil => rfl
    | cons b t => cases h2.1
  | cons a t ih =>
    intro l2 p h1 h2
    cases l2 with
    | nil =>
      have h2 : p = none := h2
      rw [h2] at h1
      cases h1.1
    | cons b u =>
      have e : some a = some b := h1.1.symm.trans h2.1
      cases e
      rw [ih h1.2 h2.2]
theorem CAd_nodup {h : HS} : ∀ {l : List Nat} {p : Option Nat}, CAd h p l none → l.Nodup := by
  intro l
  induction l with
  | nil => intro p _; exact List.nodup_nil
  | cons a t ih =>
    rintro p ⟨h1, h2⟩
    refine List.nodup_cons.mpr ⟨fun hm => ?_, ih h2⟩
    obtain ⟨t1, t2, rfl⟩ := List.append_of_mem hm
    obtain ⟨m, h3, h4⟩ := CAd_app.mp h2
    have e := CAd_det h4.2 h2
    have e2 := congrArg List.length e
    rw [List.length_append, List.length_cons] at e2
    omega
theorem cls_ads {h : HS} {ow : Nat → Int} {r : Int} : ∀ {l : List (Int × Int)} {o : Option Nat}, CLs h ow r o l → ∃ as, CAd h o as none ∧ CDt h ow r as l := by
  intro l
  induction l with
  | nil => intro o hh; exact ⟨[], hh, trivial⟩
  | cons v t ih =>
    rintro o ⟨a, h1, h2, h3, h4, h5, h6⟩
    obtain ⟨as, g1, g2⟩ := ih h6
    exact ⟨a :: as, ⟨h1, g1⟩, ⟨h2, h3, h4, h5⟩, g2⟩
theorem ads_cls {h : HS} {ow : Nat → Int} {r : Int} : ∀ {l : List (Int × Int)} {as : List Nat} {o : Option Nat}, CAd h o as none → CDt h ow r as l → CLs h ow r o l := by
  intro l
  induction l with
  | nil =>
    intro as o h1 h2
    cases as with
    | nil => exact h1
    | cons a t => exact h2.elim
  | cons v t ih =>
    intro as o h1 h2
    cases as with
    | nil => exact h2.elim
    | cons a u => exact ⟨a, h1.1, h2.1.1, h2.1.2.1, h2.1.2.2.1, h2.1.2.2.2, ih h1.2 h2.2⟩
theorem CDt_app {h : HS} {ow : Nat → Int} {r : Int} : ∀ {a1 a2 : List Nat} {l1 l2 : List (Int × Int)}, CDt h ow r a1 l1 → CDt h ow r a2 l2 → CDt h ow r (a1 ++ a2) (l1 ++ l2) := by
  intro a1
  induction a1 with
  | nil =>
    intro a2 l1 l2 h1 h2
    cases l1 with
    | nil => exact h2
    | cons v t => exact h1.elim
  | cons a t ih =>
    intro a2 l1 l2 h1 h2
    cases l1 with
    | nil => exact h1.elim
    | cons v u => exact ⟨h1.1, ih h1.2 h2⟩
theorem CDt_mem {h : HS} {ow : Nat → Int} {r : Int} : ∀ {as : List Nat} {l : List (Int × Int)}, CDt h ow r as l → ∀ a ∈ as, kD h a = 1 ∧ ow a = r := by
  intro as
  induction as with
  | nil => intro l _ a ha; cases ha
  | cons b t ih =>
    intro l h1 a ha
    cases l with
    | nil => exact h1.elim
    | cons v u =>
      rcases List.mem_cons.mp ha with rfl | ha
      · exact ⟨h1.1.1, h1.1.2.2.2⟩
      · exact ih h1.2 a ha
theorem CDt_cong {h h' : HS} {ow ow' : Nat → Int} {r : Int} : ∀ {as : List Nat} {l : List (Int × Int)}, (∀ a ∈ as, kD h' a = kD h a ∧ fI h' 0 a = fI h 0 a ∧ fI h' 1 a = fI h 1 a ∧ ow' a = ow a) → CDt h ow r as l → CDt h' ow' r as l := by
  intro as
  induction as with
  | nil => intro l _ hh; cases l <;> exact hh
  | cons a t ih =>
    intro l hc hh
    cases l with
    | nil => exact hh
    | cons v u =>
      obtain ⟨c1, c2, c3, c4⟩ := hc a List.mem_cons_self
      exact ⟨⟨c1.trans hh.1.1, c2.trans hh.1.2.1, c3.trans hh.1.2.2.1, c4.trans hh.1.2.2.2⟩, ih (fun b hb => hc b (List.mem_cons_of_mem _ hb)) hh.2⟩
theorem insC_app {x : Int × Int} : ∀ {l1 l2 : List (Int × Int)}, (∀ y ∈ l1, x.1 < y.1) → (∀ y, l2.head? = some y → ¬ x.1 < y.1) → insC x (l1 ++ l2) = l1 ++ x :: l2 := by
  intro l1
  induction l1 with
  | nil =>
    intro l2 _ h2
    cases l2 with
    | nil => rfl
    | cons y t => exact insC_ge t (h2 y rfl)
  | cons y t ih =>
    intro l2 h1 h2
    rw [List.cons_append, insC_lt (t ++ l2) (h1 y List.mem_cons_self), ih (fun z hz => h1 z (List.mem_cons_of_mem _ hz)) h2]
    rfl
/-- the cell of a new change -/
abbrev nwC (h : HS) (q : Nat) (fr is : Int) (e : Option Nat) : HS := setP (setI (setI (newO h 1 q) 0 q fr) 1 q is) 2 q e
theorem nwC_ex {h : HS} {q : Nat} {fr is : Int} {e : Option Nat} (hq : kD h q = 0) : Ex h (nwC h q fr is e) := (((Ex.newO hq).sI hq).sI hq).sP hq
theorem nwC_at (h : HS) (q : Nat) (fr is : Int) (e : Option Nat) : kD (nwC h q fr is e) q = 1 ∧ fI (nwC h q fr is e) 0 q = fr ∧ fI (nwC h q fr is e) 1 q = is ∧ fP (nwC h q fr is e) 2 q = e := by
  refine ⟨if_pos rfl, ?_, ?_, fP_set_eq⟩
  · show fI (setI (setI _ 0 q fr) 1 q is) 0 q = fr
    rw [fI_set_ne (by decide), fI_set_eq]
  · show fI (setI (setI _ 0 q fr) 1 q is) 1 q = is
    rw [fI_set_eq]
abbrev owU (ow : Nat → Int) (q : Nat) (r : Int) : Nat → Int := fun a => if a = q then r else ow a
theorem owU_ne {ow : Nat → Int} {q a : Nat} {r : Int} (h : a ≠ q) : owU ow q r a = ow a := if_neg h
/-- the new change at the head of its row's chain -/
theorem put_head {h : HS} {ow : Nat → Int} {r fr is : Int} {q la : Nat} {p : Int} {o : Option Nat} {l : List (Int × Int)} (hq : kD h q = 0) (hC : CLs h ow r o l) : CLs (setR (nwC h q fr is o) la p (some q)) (owU ow q r) r (some q) ((fr, is) :: l) := by
  obtain ⟨n1, n2, n3, n4⟩ := nwC_at h q fr is o
  obtain ⟨as, g1, g2⟩ := cls_ads ((nwC_ex (fr := fr) (is := is) (e := o) hq).cls hC)
  have hne : ∀ a ∈ as, a ≠ q := fun a ha e => by
    obtain ⟨bs, b1, b2⟩ := cls_ads hC
    have hb := CAd_cong (h' := nwC h q fr is o) (fun e he => (nwC_ex (fr := fr) (is := is) (e := o) hq e (by rw [(CDt_mem b2 e he).1]; decide)).2.2.2.1 2) b1
    have := CAd_det g1 hb
    subst this
    have h9 := (CDt_mem b2 a ha).1
    rw [e, hq] at h9
    cases h9
  refine ads_cls (as := q :: as) ⟨rfl, ?_⟩ ⟨⟨n1, n2, n3, if_pos rfl⟩, CDt_cong (h := nwC h q fr is o) (fun a ha => ⟨rfl, rfl, rfl, owU_ne (hne a ha)⟩) g2⟩
  show CAd _ (fP (nwC h q fr is o) 2 q) as none
  rw [n4]
  exact CAd_cong (h := nwC h q fr is o) (fun _ _ => rfl) g1
/-- the new change behind the cell b -/
theorem put_mid {h : HS} {ow : Nat → Int} {r fr is : Int} {q b : Nat} {o e : Option Nat} {a0 a2 : List Nat} {l1 l2 : List (Int × Int)} (hq : kD h q = 0) (h1 : CAd h o (a0 ++ [b]) e) (h2 : CAd h e a2 none) (d1 : CDt h ow r (a0 ++ [b]) l1) (d2 : CDt h ow r a2 l2) : CLs (setP (nwC h q fr is e) 2 b (some q)) (owU ow q r) r o (l1 ++ (fr, is) :: l2) := by
  obtain ⟨n1, n2, n3, n4⟩ := nwC_at h q fr is e
  have hex := nwC_ex (fr := fr) (is := is) (e := e) hq
  have hnd := CAd_nodup (CAd_app.mpr ⟨e, h1, h2⟩)
  have k1 : ∀ a ∈ a0 ++ [b], kD h a = 1 := fun a ha => (CDt_mem d1 a ha).1
  have k2 : ∀ a ∈ a2, kD h a = 1 := fun a ha => (CDt_mem d2 a ha).1
  have ne1 : ∀ a ∈ a0 ++ [b], a ≠ q := fun a ha e => by have := k1 a ha; rw [e, hq] at this; cases this
  have ne2 : ∀ a ∈ a2, a ≠ q := fun a ha e => by have := k2 a ha; rw [e, hq] at this; cases this
  have hbq : b ≠ q := ne1 b (by simp)
  have hb0 : ∀ a ∈ a0, a ≠ b := fun a ha e => by
    rw [List.nodup_append, List.nodup_append] at hnd
    exact hnd.1.2.2 a ha b (by simp) e
  have hb2 : ∀ a ∈ a2, a ≠ b := fun a ha e => by
    rw [List.nodup_append] at hnd
    exact hnd.2.2 b (by simp) a ha e.symm
  have p2 : ∀ a, kD h a = 1 → a ≠ b → fP (setP (nwC h q fr is e) 2 b (some q)) 2 a = fP h 2 a := fun a ka hab => by
    rw [fP_set_at hab]
    exact (hex a (by omega)).2.2.2.1 2
  have dat : ∀ a, kD h a = 1 → a ≠ q → kD (setP (nwC h q fr is e) 2 b (some q)) a = kD h a ∧ fI (setP (nwC h q fr is e) 2 b (some q)) 0 a = fI h 0 a ∧ fI (setP (nwC h q fr is e) 2 b (some q)) 1 a = fI h 1 a ∧ owU ow q r a = ow a := fun a ka hab => by
    obtain ⟨x1, x2, x3, -⟩ := hex a (by omega)
    exact ⟨x1, x3 0, x3 1, owU_ne hab⟩
  obtain ⟨m, g1, g2⟩ := CAd_app.mp h1
  refine ads_cls (as := (a0 ++ [b]) ++ q :: a2) (CAd_app.mpr ⟨some q, CAd_app.mpr ⟨m, CAd_cong (fun a ha => p2 a (k1 a (List.mem_append_left _ ha)) (hb0 a ha)) g1, g2.1, fP_set_eq⟩, rfl, ?_⟩) (CDt_app (CDt_cong (fun a ha => dat a (k1 a ha) (ne1 a ha)) d1) ⟨⟨n1, n2, n3, if_pos rfl⟩, CDt_cong (fun a ha => dat a (k2 a ha) (ne2 a ha)) d2⟩)
  rw [fP_set_at (Ne.symm hbq), n4]
  exact CAd_cong (fun a ha => p2 a (k2 a ha) (hb2 a ha)) h2
/-- other rows' chains -/
theorem CLs.sP {h : HS} {ow : Nat → Int} {r : Int} {b : Nat} {u : Option Nat} (hb : ow b ≠ r) : ∀ {l : List (Int × Int)} {o : Option Nat}, CLs h ow r o l → CLs (setP h 2 b u) ow r o l := by
  intro l
  induction l with
  | nil => intro o hh; exact hh
  | cons v t ih =>
    rintro o ⟨a, h1, h2, h3, h4, h5, h6⟩
    refine ⟨a, h1, h2, h3, h4, h5, ?_⟩
    rw [fP_set_at (fun e => hb (by rw [← e]; exact h5))]
    exact ih h6
theorem CLs.ow {h : HS} {ow ow' : Nat → Int} {r : Int} (hw : ∀ a, kD h a ≠ 0 → ow' a = ow a) : ∀ {l : List (Int × Int)} {o : Option Nat}, CLs h ow r o l → CLs h ow' r o l := by
  intro l
  induction l with
  | nil => intro o hh; exact hh
  | cons v t ih =>
    rintro o ⟨a, h1, h2, h3, h4, h5, h6⟩
    exact ⟨a, h1, h2, h3, h4, by rw [hw a (by omega)]; exact h5, ih h6⟩
/-- what addChange leaves -/
def AdQ (h h' : HS) (A : AD) (ow : Nat → Int) (k p fr is : Int) (l : List (Int × Int)) : Prop := ∃ q e, kD h q = 0 ∧ ((h' = setR (nwC h q fr is e) (lc A k) p (some q)) ∨ ∃ b, ow b = 4 * k + p ∧ kD h b = 1 ∧ h' = setP (nwC h q fr is e) 2 b (some q)) ∧ CLs h' (owU ow q (4 * k + p)) (4 * k + p) (aR h' (lc A k) p) (insC (fr, is) l)
theorem AdQ.mk1 {h : HS} {A : AD} {ow : Nat → Int} {k p fr is : Int} {q : Nat} {e : Option Nat} {as2 : List Nat} {l2 : List (Int × Int)} (hq : kD h q = 0) (h1 : CAd h (aR h (lc A k) p) [] e) (h2 : CAd h e as2 none) (d2 : CDt h ow (4 * k + p) as2 l2) (hh : ∀ y, l2.head? = some y → ¬ fr < y.1) : AdQ h (setR (nwC h q fr is e) (lc A k) p (some q)) A ow k p fr is l2 := by
  refine ⟨q, e, hq, Or.inl rfl, ?_⟩
  rw [aR_setR, if_pos ⟨rfl, rfl⟩, show insC (fr, is) l2 = (fr, is) :: l2 from insC_app (l1 := []) (fun y hy => by cases hy) hh]
  exact put_head hq (ads_cls h2 d2)
theorem AdQ.mk2 {h : HS} {A : AD} {ow : Nat → Int} {k p fr is : Int} {q b : Nat} {e : Option Nat} {a0 as2 : List Nat} {l1 l2 : List (Int × Int)} (hq : kD h q = 0) (h1 : CAd h (aR h (lc A k) p) (a0 ++ [b]) e) (h2 : CAd h e as2 none) (d1 : CDt h ow (4 * k + p) (a0 ++ [b]) l1) (d2 : CDt h ow (4 * k + p) as2 l2) (hlt : ∀ y ∈ l1, fr < y.1) (hh : ∀ y, l2.head? = some y → ¬ fr < y.1) : AdQ h (setP (nwC h q fr is e) 2 b (some q)) A ow k p fr is (l1 ++ l2) := by
  have hb := CDt_mem d1 b (by simp)
  refine ⟨q, e, hq, Or.inr ⟨b, hb.2, hb.1, rfl⟩, ?_⟩
  rw [insC_app hlt hh]
  exact put_mid hq h1 h2 d1 d2

/-! The other writing calls' steps -/
theorem CR.pas {h : HS} {A : AD} {M : MS} {l : List Int} {f : Int → Int} {ow : Nat → Int} {z : Int} (c : CR h A M l f ow) (hz : 1440 ≤ z ∧ z ≤ 100000) : RC (cO A) (setI h 71 (cO A) z) (mset M 1 0 z) := by
  obtain ⟨cs, cv, ⟨cf, clow⟩, ⟨cch, cord⟩, cns, cx, cg, ce⟩ := id c
  have a : Fr [71] [] nA nA h (setI h 71 (cO A) z) := Fr.sI (by decide)
  have g := Sm.set M 1 0 z
  exact ⟨A, l, f, ow, rfl, g.sp (cs.mi.w1 hz) (a.sp cs), a.vo cv id, ⟨a.lw cf, g.low clow⟩, ⟨a.ch cch, g.ord cord⟩, g.cns (a.cns cns (fun _ _ _ => id)), ⟨fun e e0 e1 => by rw [a.i (by decide)]; exact cx.1 e e0 e1, cx.2.1, by rw [a.i (by decide)]; exact cx.2.2.1, by rw [a.i (by decide)]; exact cx.2.2.2.1, by rw [a.i (by decide)]; exact cx.2.2.2.2.1, by rw [a.i (by decide)]; exact cx.2.2.2.2.2.1, by rw [fI_set_eq, mset_eq], cx.2.2.2.2.2.2.2⟩, (cg.fr a).sm g, ce.sm g⟩
theorem CR.new {h h' : HS} {A : AD} {M : MS} {l : List Int} {f : Int → Int} {ow : Nat → Int} (c : CR h A M l f ow) (hO : OnlyL h h') (hf : LW h' A (l.foldl (jbF M) (fun k => k))) : CR h' A M l (l.foldl (jbF M) (fun k => k)) ow := by
  obtain ⟨cs, cv, ⟨cf, clow⟩, ⟨cch, cord⟩, cns, cx, cg, ce⟩ := id c
  have a : Fr [] [42] nA nA h h' := hO.fr (by decide)
  exact ⟨a.sp cs, a.vo cv id, ⟨hf, low_new cs.mi cord⟩, ⟨a.ch cch, cord⟩, a.cns cns (fun _ _ _ => id), cx.fr a id id, cg.fr a, ce⟩
theorem CR.sha {h h' : HS} {A : AD} {M : MS} {l : List Int} {f : Int → Int} {ow : Nat → Int} {x w : Int} (c : CR h A M l f ow) (hx : 0 ≤ x ∧ x < 10) (hw : w = 0 ∨ w = 1) (hO : OnlyL (setI h 44 (nd A (10 + x)) w) h') (hf : LW h' A (l.foldl (jbF (mset M 12 x w)) (fun k => k))) : RC (cO A) h' (mset M 12 x w) := by
  obtain ⟨cs, cv, ⟨cf, clow⟩, ⟨cch, cord⟩, cns, cx, cg, ce⟩ := id c
  have a0 : Fr [44] [42] nA nA h (setI h 44 (nd A (10 + x)) w) := Fr.sI (by decide)
  have a1 : Fr [] [42] nA nA (setI h 44 (nd A (10 + x)) w) h' := hO.fr (by decide)
  have a : Fr [44] [42] nA nA h h' := a0.tr (hO.fr (by decide))
  have g := Sm.set M 12 x w
  have hO2 : Ord (mset M 12 x w) l := g.ord cord
  exact ⟨A, l, _, ow, rfl, a1.sp (cs.w44 hx hw), a.vo cv id, ⟨hf, low_new (cs.mi.w12 hw) hO2⟩, ⟨a.ch cch, hO2⟩, g.cns (a.cns cns (fun _ _ _ => id)), (cx.fr a id id).sm g, (cg.fr a).sm g, ce.sm g⟩
theorem CR.lin {h h' : HS} {A : AD} {M : MS} {l : List Int} {f : Int → Int} {ow : Nat → Int} {x u w : Int} (c : CR h A M l f ow) (hx : 0 ≤ x ∧ x < 10) (hu : 0 ≤ u ∧ u < 10) (hw : w = 0 ∨ w = 1) (hO : OnlyL (setI h 43 (nd A (10 + x)) (mlV h A x u w)) h') (hf : LW h' A (l.foldl (jbF (mset M 13 (10 * x + u) (1 - w))) (fun k => k))) : RC (cO A) h' (mset M 13 (10 * x + u) (1 - w)) := by
  obtain ⟨cs, cv, ⟨cf, clow⟩, ⟨cch, cord⟩, cns, cx, cg, ce⟩ := id c
  have a0 : Fr [43] [42] nA nA h (setI h 43 (nd A (10 + x)) (mlV h A x u w)) := Fr.sI (by decide)
  have a1 : Fr [] [42] nA nA (setI h 43 (nd A (10 + x)) (mlV h A x u w)) h' := hO.fr (by decide)
  have a : Fr [43] [42] nA nA h h' := a0.tr (hO.fr (by decide))
  have g := Sm.set M 13 (10 * x + u) (1 - w)
  have hO2 : Ord (mset M 13 (10 * x + u) (1 - w)) l := g.ord cord
  exact ⟨A, l, _, ow, rfl, a1.sp (cs.w43 hx hu hw), a.vo cv id, ⟨hf, low_new (cs.mi.w13 (by omega)) hO2⟩, ⟨a.ch cch, hO2⟩, g.cns (a.cns cns (fun _ _ _ => id)), (cx.fr a id id).sm g, (cg.fr a).sm g, ce.sm g⟩
theorem CX.mk2 {fi fp : List Nat} {ai ar : Nat → Prop} {h h' : HS} {A : AD} {M : MS} (c : CX h A M) (a : Fr fi fp ai ar h h') (h1 : ¬ ai (cM A)) (h2 : ¬ ai (cW A)) (hm : ∀ e, 0 ≤ e → e < M 2 0 → fI h' 17 (ev A e) = 0 ∨ fI h' 17 (ev A e) = 1) (hi : ∀ x ∈ fi, x ∉ [67, 68, 69, 70, 71] := by decide) : CX h' A M := by
  have gi : ∀ x, x ∈ [67, 68, 69, 70, 71] → fI h' x = fI h x := fun x q => a.2.2.1 x (fun q' => hi x q' q)
  obtain ⟨c1, c2, c3, c4, c5, c6, c7, c8⟩ := c
  exact ⟨hm, fun j j0 j1 => by rw [a.2.2.2.2.1 _ h1]; exact c2 j j0 j1, by rw [gi 67 (by decide)]; exact c3, by rw [gi 68 (by decide)]; exact c4, by rw [gi 69 (by decide)]; exact c5, by rw [gi 70 (by decide)]; exact c6, by rw [gi 71 (by decide)]; exact c7, fun j j0 j1 => by rw [a.2.2.2.2.1 _ h2]; exact c8 j j0 j1⟩
theorem CR.ske {h h' : HS} {A : AD} {M : MS} {l l' : List Int} {f : Int → Int} {ow : Nat → Int} {x w : Int} (c : CR h A M l f ow) (hs : SP h' A (mset M 11 x w)) (a : Fr [17, 45] [18, 20, 21] nA nA h h') (hm : ∀ e, 0 ≤ e → e < M 2 0 → fI h' 17 (ev A e) = 0 ∨ fI h' 17 (ev A e) = 1) (hC : ChL h' A l') (hO : Ord (mset M 11 x w) l') : RC (cO A) h' (mset M 11 x w) := by
  obtain ⟨cs, cv, ⟨cf, clow⟩, ⟨cch, cord⟩, cns, cx, cg, ce⟩ := id c
  have g := Sm.set M 11 x w
  exact ⟨A, l', f, ow, rfl, hs, a.vo cv id, ⟨a.lw cf, g.low clow⟩, ⟨hC, hO⟩, g.cns (a.cns cns (fun _ _ _ => id)), (cx.mk2 a id id hm).sm g, (cg.fr a).sm g, ce.sm g⟩
/-- group -/
theorem CR.gro {h h' : HS} {A : AD} {M : MS} {l : List Int} {f : Int → Int} {ow : Nat → Int} {p what least days : Int} (c : CR h A M l f ow) (hn : M 17 0 < 8) (h1 : 0 ≤ p ∧ p ≤ 3) (h2 : 0 ≤ what ∧ what ≤ 4) (h3 : 1 ≤ least ∧ least ≤ 20) (h4 : 1 ≤ days ∧ days ≤ 30) (q : GrQ h h' A M p what least days) : RC (cO A) h' (grpM M p what least days) := by
  obtain ⟨cs, cv, ⟨cf, clow⟩, ⟨cch, cord⟩, cns, cx, cg, ce⟩ := id c
  obtain ⟨q, hq, hh⟩ := q
  have sM := cs.mi
  have hgn := sM.gn
  have hex := nwG_ex (nu := M 17 0) (p := p) (what := what) (least := least) (days := days) hq
  obtain ⟨t1, t2, t3, t4, t5, t6, t7, t8⟩ := nwG_at h q (M 17 0) p what least days
  have g := grpM_sm M p what least days
  have a : Fr [67] [36, 65, 66] nA nA (nwG h q (M 17 0) p what least days) h' := by
    rw [hh]
    have b1 : Fr [67] [36, 65, 66] nA nA (nwG h q (M 17 0) p what least days) (if M 17 0 = 0 then setP (nwG h q (M 17 0) p what least days) 65 (cO A) (some q) else setP (nwG h q (M 17 0) p what least days) 36 (gp A (M 17 0 - 1)) (some q)) := by
      split
      · exact Fr.sP (by decide)
      · exact Fr.sP (by decide)
    exact (b1.tr (Fr.sP (by decide))).tr (Fr.sI (by decide))
  have hgne : ∀ i, 0 ≤ i → i < M 17 0 → gp A i ≠ q := fun i i0 i1 e => by
    have := (cg.ok i0 i1).1
    rw [e, hq] at this
    cases this
  have hgp : ∀ i, i < M 17 0 → gp (updG A (M 17 0) q) i = gp A i := fun i i1 => if_neg (by omega)
  have hgq : gp (updG A (M 17 0) q) (M 17 0) = q := if_pos rfl
  have cg1 := cg.ex hex cv
  have p36 : ∀ z, (M 17 0 = 0 ∨ z ≠ gp A (M 17 0 - 1)) → fP h' 36 z = fP (nwG h q (M 17 0) p what least days) 36 z := fun z hz => by
    rw [hh]
    show fP (setP _ 66 (cO A) (some q)) 36 z = _
    rw [fP_set_ne (by decide)]
    by_cases h0 : M 17 0 = 0
    · rw [if_pos h0, fP_set_ne (by decide)]
    · rw [if_neg h0, fP_set_at (hz.resolve_left h0)]
  have gok : ∀ i, 0 ≤ i → i < M 17 0 → grpOK h' (updG A (M 17 0) q) (grpM M p what least days) i := fun i i0 i1 => by
    obtain ⟨x0, x1, x2, x3, x4, x5⟩ := a.grp (hex.grp (cg.ok i0 i1))
    simp only [grpOK, hgp i i1, gr_s18 i1, gr_s19 i1, gr_s20 i1, gr_s21 i1]
    exact ⟨x0, x1, x2, x3, x4, x5⟩
  have gok2 : grpOK h' (updG A (M 17 0) q) (grpM M p what least days) (M 17 0) := by
    simp only [grpOK, hgq, gr_n18, gr_n19, gr_n20, gr_n21]
    rw [a.k, a.i (by decide), a.i (by decide), a.i (by decide), a.i (by decide), a.i (by decide)]
    exact ⟨t1, t2, t3, t4, t5, t6⟩
  have e17 : grpM M p what least days 17 0 = M 17 0 + 1 := gr_17
  have e36 : fP h' 36 q = none := by
    rw [p36 q (by
      by_cases h0 : M 17 0 = 0
      · exact Or.inl h0
      · exact Or.inr (fun e => hgne _ (by omega) (by omega) e.symm))]
    exact t8
  refine ⟨updG A (M 17 0) q, l, f, ow, rfl, g.sp (sM.gr2 hn h1 h2 h3 h4) (a.sp (hex.sp cs)), a.vo (hex.vo cv) id, ⟨a.lw (hex.lw cs cf), g.low clow⟩, ⟨ChL_A (A := A) rfl (fun _ _ => rfl) (a.ch (hex.ch cs cv.2.2.2.2.2.2.2.2.2.2.2.1 c.hl cch)), g.ord cord⟩, g.cns (a.cns (hex.cns cs cns) (fun _ _ _ => id)), ?_, ⟨?_, ?_, fun i i0 i1 => ?_⟩, ?_⟩
  · obtain ⟨c1, c2, c3, c4, c5, c6, c7, c8⟩ := cx.ex hex cs cv
    refine ⟨fun e e0 e1 => by rw [a.i (by decide)]; exact c1 e e0 e1, fun j j0 j1 => by rw [a.2.2.2.2.1 _ id]; exact c2 j j0 j1, ?_, by rw [a.i (by decide)]; exact c4, by rw [a.i (by decide)]; exact c5, by rw [a.i (by decide)]; exact c6, by rw [a.i (by decide)]; exact c7, fun j j0 j1 => by rw [a.2.2.2.2.1 _ id]; exact c8 j j0 j1⟩
    rw [e17, hh]
    exact fI_set_eq
  · rw [e17]
    by_cases h0 : M 17 0 = 0
    · have e65 : fP h' 65 (cO A) = some q := by
        rw [hh, if_pos h0]
        show fP (setP (setP _ 65 (cO A) (some q)) 66 (cO A) (some q)) 65 (cO A) = _
        rw [fP_set_ne (by decide), fP_set_eq]
      show GL h' _ _ _ 0 (fP h' 65 (cO A))
      rw [e65, show (M 17 0 + 1).toNat = 1 by omega]
      have hg0 : gp (updG A (M 17 0) q) 0 = q := if_pos h0.symm
      have gok0 : ∀ z, M 17 0 = z → grpOK h' (updG A (M 17 0) q) (grpM M p what least days) z := fun z hz => by
        subst hz
        exact gok2
      refine ⟨?_, gok0 0 h0, ?_⟩
      · rw [hg0]
      · rw [hg0]
        exact e36
    · have e65 : fP h' 65 (cO A) = fP (nwG h q (M 17 0) p what least days) 65 (cO A) := by
        rw [hh, if_neg h0]
        show fP (setP (setP _ 36 _ (some q)) 66 (cO A) (some q)) 65 (cO A) = _
        rw [fP_set_ne (by decide), fP_set_ne (by decide)]
      show GL h' _ _ _ 0 (fP h' 65 (cO A))
      rw [e65, show (M 17 0 + 1).toNat = ((M 17 0).toNat - 1) + 2 by omega]
      have hGL := cg1.1
      rw [show (M 17 0).toNat = ((M 17 0).toNat - 1) + 1 by omega] at hGL
      have z1 : (0 : Int) + ((((M 17 0).toNat - 1 : Nat) : Int) + 1) = M 17 0 := by omega
      have z2 : (0 : Int) + (((M 17 0).toNat - 1 : Nat) : Int) = M 17 0 - 1 := by omega
      refine GL_snoc (h' := h') (M' := grpM M p what least days) (A' := updG A (M 17 0) q) hGL (fun i i0 i1 => ⟨gok i i0 (by omega), hgp i (by omega)⟩) (fun i i0 i1 => p36 _ (Or.inr (fun e => ?_))) ?_ ?_ ?_
      · have := cg.inj (g := M 17 0 - 1) (u := i) (by omega) (by omega) i0 (by omega) e
        omega
      · rw [z1, z2, hgq, hh, if_neg h0]
        show fP (setP (setP _ 36 (gp A (M 17 0 - 1)) (some q)) 66 (cO A) (some q)) 36 (gp A (M 17 0 - 1)) = _
        rw [fP_set_ne (by decide), fP_set_eq]
      · rw [z1]; exact gok2
      · rw [z1, hgq]; exact e36
  · rw [e17, if_neg (by omega), show M 17 0 + 1 - 1 = M 17 0 by omega, hgq, hh]
    show fP (setP _ 66 (cO A) (some q)) 66 (cO A) = _
    exact fP_set_eq
  · rw [e17] at i1
    by_cases hi : i = M 17 0
    · subst hi
      rw [hgq, a.i (by decide), t7]
      refine bw_0.cong (fun j hj => ?_)
      have := ce.2.2.2.2.2 (20 * M 17 0 + j) (by omega)
      rw [show grpM M p what least days 22 = M 22 from gr_o22, this]
      constructor
      · intro z; exact z.elim
      · rintro ⟨-, -, z⟩; cases z
    · rw [hgp i (by omega), a.i (by decide), show grpM M p what least days 22 = M 22 from gr_o22]
      exact cg1.2.2 i i0 (by omega)
  · obtain ⟨d1, d2, d3, d4, d5, d6⟩ := ce
    exact ⟨d1, d2, d3, d4, d5, fun j hj => by rw [e17] at hj; rw [show grpM M p what least days 22 = M 22 from gr_o22]; exact d6 j (by omega)⟩

/-! forget, event, tell: their steps -/
theorem for_mi {M M1 M2 : MS} {x : Int} (hM : MI M) (g : Fnd M M1) (r : ForR M1 M2 x) : MI M2 := by
  have h1 := g.MI hM
  obtain ⟨r1, r2, r3⟩ := r
  obtain ⟨a1, a2, a3, a4, a5, a6, a7, a8, a9, a10, a11⟩ := h1
  have e : ∀ k, k ≠ 9 → k ≠ 14 → M2 k = M1 k := r1
  refine ⟨by rw [e 2 (by decide) (by decide)]; exact a1, by rw [e 1 (by decide) (by decide)]; exact a2, fun u u0 u1 => ?_, fun d d0 d1 => by rw [e 11 (by decide) (by decide)]; exact a4 d d0 d1, fun q q0 q1 => ?_, fun q k q0 q1 k0 k1 => ?_, by rw [e 17 (by decide) (by decide)]; exact a7, fun i i0 i1 => ?_, by rw [e 24 (by decide) (by decide)]; exact a9, fun k k0 k1 => by rw [e 27 (by decide) (by decide)]; exact a10 k k0 k1, fun k j hk => ?_⟩
  · rw [e 2 (by decide) (by decide)] at u1
    have := a3 u u0 u1
    simp only [MEv, e 3 (by decide) (by decide), e 4 (by decide) (by decide), e 5 (by decide) (by decide), e 6 (by decide) (by decide), e 7 (by decide) (by decide), e 8 (by decide) (by decide)]
    exact this
  · rw [r3]
    split
    · omega
    · exact a5 q q0 q1
  · rw [r3] at k1
    rw [e 15 (by decide) (by decide)]
    split at k1
    · omega
    · exact a6 q k q0 q1 k0 k1
  · rw [e 17 (by decide) (by decide)] at i1
    have := a8 i i0 i1
    simp only [MGr, e 18 (by decide) (by decide), e 19 (by decide) (by decide), e 20 (by decide) (by decide), e 21 (by decide) (by decide)]
    exact this
  · by_cases h9 : k = 9
    · subst h9
      rw [r2]
      split
      · exact Or.inr rfl
      · exact a11 9 j hk
    · rw [e k h9 (by omega)]
      exact a11 k j hk
theorem CR.forg {h h' : HS} {A : AD} {M M1 M2 : MS} {l : List Int} {f : Int → Int} {ow : Nat → Int} {x : Int} (c : CR h A M l f ow) (hx : 0 ≤ x ∧ x < 20) (a : Fr [17] [18, 20, 21, 42] nA (LcF A f (f x) 20) h h') (hm : ∀ e, 0 ≤ e → e < M 2 0 → fI h' 17 (ev A e) = 0 ∨ fI h' 17 (ev A e) = 1) (hC : ChL h' A (l.filter (fun e => !decide (f (ndOf M e) = f x)))) (hf : LW h' A ((l.filter (fun e => !decide (f (ndOf M e) = f x))).foldl (jbF M) (fun k => k))) (hz : ∀ k p, 0 ≤ k → k < 20 → 0 ≤ p → p < 4 → f k = f x → aR h' (lc A k) p = none) (g : Fnd M M1) (r : ForR M1 M2 x) : RC (cO A) h' M2 := by
  obtain ⟨cs, cv, ⟨cf, clow⟩, ⟨cch, cord⟩, cns, cx, cg, ce⟩ := id c
  have sM := cs.mi
  have hM2 := for_mi sM g r
  have g2 : Sm [9, 14, 27] M M2 := fun k q => by
    simp only [List.mem_cons, List.not_mem_nil, or_false, not_or] at q
    rw [r.1 k q.1 q.2.1, g.1 k q.2.2]
  have e2 : M1 2 0 = M 2 0 := by rw [g.1 2 (by decide)]
  have e9p : ∀ e, 0 ≤ e → e < M 2 0 → blg M1 e x → M2 9 e = 1 := fun e a b c => by
    rw [r.2.1 e, if_pos ⟨a, by rw [e2]; exact b, c⟩]
  have e9n : ∀ e, (¬ (0 ≤ e ∧ e < M 2 0) ∨ ¬ blg M1 e x) → M2 9 e = M 9 e := fun e h => by
    rw [r.2.1 e, if_neg (fun q => h.elim (fun q' => q' ⟨q.1, by rw [← e2]; exact q.2.1⟩) (fun q' => q' q.2.2)), g.1 9 (by decide)]
  have hO2 : Ord M2 (l.filter (fun e => !decide (f (ndOf M e) = f x))) := by
    refine ⟨(cord.1.filter _).imp (fun {a b} hab => (g2.ah a b).mpr hab), fun e => ?_⟩
    rw [List.mem_filter, cord.2, g2 2 (by decide)]
    constructor
    · rintro ⟨⟨h1, h2⟩, h3⟩
      refine ⟨h1, ?_⟩
      rw [e9n e (Or.inr (fun q => ?_))]
      · exact h2
      · have := ((blg_eq sM clow g h1 hx).mp q).2
        simp [this] at h3
    · rintro ⟨h1, h2⟩
      by_cases hb : blg M1 e x
      · rw [e9p e h1.1 h1.2 hb] at h2
        cases h2
      · rw [e9n e (Or.inr hb)] at h2
        refine ⟨⟨h1, h2⟩, ?_⟩
        have hne : ¬ f (ndOf M e) = f x := fun q => hb ((blg_eq sM clow g h1 hx).mpr ⟨h2, q⟩)
        simp [hne]
  have hcl : ¬ LcF A f (f x) 20 (cN A) := fun ⟨k, k0, _, q⟩ => by
    have h1 := (cs.no k k0.1 k0.2).2.2.2.1
    rw [← q, cv.2.2.2.2.2.2.1] at h1
    cases h1
  refine ⟨A, _, _, ow, rfl, g2.sp hM2 (a.sp cs), a.vo cv hcl, ⟨hf, ?_⟩, ⟨hC, hO2⟩, fun k p k0 k1 p0 p1 => ?_, ?_, (cg.fr a).sm g2, ?_⟩
  · have := low_new hM2 hO2
    rw [jbF_sm g2] at this
    exact this
  · have e14 : M2 14 (4 * k + p) = if f k = f x then 0 else M 14 (4 * k + p) := by
      rw [r.2.2, g.1 14 (by decide), show (4 * k + p) / 4 = k by omega, low_eq clow g k k0 k1, low_eq clow g x hx.1 hx.2]
      by_cases hk : f k = f x
      · rw [if_pos hk, if_pos ⟨by omega, by omega, hk⟩]
      · rw [if_neg hk, if_neg (fun q => hk q.2.2)]
    rw [e14]
    by_cases hk : f k = f x
    · rw [if_pos hk, hz k p k0 k1 p0 p1 hk]
      exact rfl
    · rw [if_neg hk, a.2.2.2.2.2 _ (fun ⟨k', k0', hk', q⟩ => hk (by rw [ce.1 k k' k0 k1 k0'.1 k0'.2 q]; exact hk')), slC_cong (g2 15 (by decide)) (g2 16 (by decide))]
      exact a.cls (cns k p k0 k1 p0 p1)
  · exact (cx.mk2 a id id hm).sm g2
  · obtain ⟨d1, d2, d3, d4, d5, d6⟩ := ce
    refine ⟨d1, fun e e0 e1 => ?_, fun e u e0 e1 u0 u1 q => ?_, fun e e0 e1 => ?_, fun e e0 => ?_, fun j hj => ?_⟩
    · rw [g2 2 (by decide)] at e1
      rw [g2 10 (by decide), g2 3 (by decide)]
      exact d2 e e0 e1
    · rw [g2 2 (by decide)] at e1 u1
      rw [g2 3 (by decide)] at q
      exact d3 e u e0 e1 u0 u1 q
    · rw [g2 2 (by decide)] at e1
      rw [g2 23 (by decide), g2 4 (by decide), g2 5 (by decide)]
      exact d4 e e0 e1
    · rw [g2 2 (by decide)] at e0
      rw [e9n e (Or.inl (by omega))]
      exact d5 e e0
    · rw [g2 17 (by decide)] at hj
      rw [g2 22 (by decide)]
      exact d6 j hj
theorem GL_A {h : HS} {A A' : AD} {M : MS} (hg : ∀ i, gp A' i = gp A i) : ∀ {n : Nat} {g : Int} {u : Option Nat}, GL h A M n g u → GL h A' M n g u := by
  intro n
  induction n with
  | zero => intro g u hh; exact hh
  | succ n ih =>
    rintro g u ⟨e1, e2, e3⟩
    refine ⟨by rw [hg]; exact e1, ?_, ?_⟩
    · simp only [grpOK, hg]
      exact e2
    · rw [hg]
      exact ih e3
theorem CG_A {h : HS} {A A' : AD} {M : MS} (hg : ∀ i, gp A' i = gp A i) (hO : cO A' = cO A) (c : CG h A M) : CG h A' M := by
  obtain ⟨c1, c2, c3⟩ := c
  refine ⟨by rw [hO]; exact GL_A hg c1, by rw [hO, hg]; exact c2, fun g g0 g1 => by rw [hg]; exact c3 g g0 g1⟩
theorem CR.eve {h h' : HS} {A : AD} {M : MS} {l : List Int} {f : Int → Int} {ow : Nat → Int} {its dv who what frm time : Int} (c : CR h A M l f ow) (h10 : M 10 its = 0) (hn : M 2 0 < 200) (h1 : 0 ≤ its ∧ its ≤ 999) (h2 : 0 ≤ dv ∧ dv ≤ 9) (h3 : -1 ≤ who ∧ who ≤ 9) (h4 : 0 ≤ what ∧ what ≤ 4) (h5 : -1 ≤ frm ∧ frm ≤ 9) (h6 : 0 ≤ time ∧ time ≤ 100000) (q : EvQ h h' A M l f its dv who what frm time) : RC (cO A) h' (evM M its dv who what frm time) := by
  obtain ⟨cs, cv, ⟨cf, clow⟩, ⟨cch, cord⟩, cns, cx, cg, ce⟩ := id c
  have sM := cs.mi
  have hn0 := sM.n
  obtain ⟨q, hh1, hq, hq1, a, e68, ecM, hC, hf⟩ := q
  have hex : Ex h hh1 := by rw [hq1]; exact nwE_ex hq
  have s3 : SP hh1 (updE A (M 2 0) q) (evM M its dv who what frm time) := by rw [hq1]; exact cs.ev3 hq hn h1 h2 h3 h4 h5 h6
  have hat := nwE_at h q its (some (nd A (10 + dv))) (if who = -1 then none else some (nd A who)) what frm time (M 2 0)
  have f17 : fI hh1 17 q = 0 := by rw [hq1]; exact hat.2.2.2.2.2.2.2.2
  have g := evM_sm M its dv who what frm time
  have h9 : M 9 (M 2 0) = 0 := ce.2.2.2.2.1 _ (Int.le_refl _)
  have kM : ¬ (cW A = cM A) := fun e => by
    have a1 := cv.2.2.2.2.2.2.2.2.2.1
    have a2 := cv.2.2.2.2.2.2.2.2.2.2.2.2.2.1
    rw [e, a1] at a2
    cases a2
  have hcn : CNs h' A M ow := a.cns (hex.cns cs cns) (fun _ _ _ => id)
  obtain ⟨c1, c2, c3, c4, c5, c6, c7, c8⟩ := cx.ex hex cs cv
  refine ⟨updE A (M 2 0) q, _, _, ow, rfl, a.sp s3, a.vo (hex.vo cv) id, ⟨hf, ev_low sM (sM.ev2 hn h1 h2 h3 h4 h5 h6) cord clow h9⟩, ⟨hC, ev_ord cord hn0.1 h9⟩, g.cns (show CNs h' (updE A (M 2 0) q) M ow from hcn), ?_, CG_A (A := A) (fun _ => rfl) rfl (((cg.ex hex cv).fr a).sm g), ?_⟩
  · refine ⟨fun e e0 e1 => ?_, fun j j0 j1 => ?_, ?_, ?_, ?_, ?_, ?_, fun j j0 j1 => ?_⟩
    · rw [ev_2] at e1
      rw [a.i (by decide)]
      by_cases he : e = M 2 0
      · subst he
        rw [show ev (updE A (M 2 0) q) (M 2 0) = q from if_pos rfl]
        exact Or.inl f17
      · rw [show ev (updE A (M 2 0) q) e = ev A e from if_neg he]
        exact c1 e e0 (by omega)
    · rw [ev_10]
      show aI h' (cM A) j = _
      rw [ecM j]
      split
      · rfl
      · exact cx.2.1 j j0 j1
    · rw [a.i (by decide), ev_o17]; exact c3
    · rw [ev_2]; exact e68
    · rw [a.i (by decide), ev_o24]; exact c5
    · rw [a.i (by decide), ev_o26]; exact c6
    · rw [a.i (by decide), ev_o1]; exact c7
    · rw [ev_o24] at j1
      show aI h' (cW A) j = _
      rw [a.2.2.2.2.1 _ kM, ev_o25]
      exact c8 j j0 j1
  · obtain ⟨d1, d2, d3, d4, d5, d6⟩ := ce
    refine ⟨d1, fun e e0 e1 => ?_, fun e u e0 e1 u0 u1 qq => ?_, fun e e0 e1 => ?_, fun e e0 => ?_, fun j hj => ?_⟩
    · rw [ev_2] at e1
      rw [ev_10]
      by_cases he : e = M 2 0
      · subst he
        rw [ev_n3, if_pos rfl]
      · rw [ev_s3 (by omega)]
        split
        · rfl
        · exact d2 e e0 (by omega)
    · rw [ev_2] at e1 u1
      by_cases he : e = M 2 0 <;> by_cases hu : u = M 2 0
      · rw [he, hu]
      · rw [he, ev_n3, ev_s3 (by omega)] at qq
        have := d2 u u0 (by omega)
        rw [← qq, h10] at this
        cases this
      · rw [hu, ev_n3, ev_s3 (by omega)] at qq
        have := d2 e e0 (by omega)
        rw [qq, h10] at this
        cases this
      · rw [ev_s3 (by omega), ev_s3 (by omega)] at qq
        exact d3 e u e0 (by omega) u0 (by omega) qq
    · rw [ev_2] at e1
      by_cases he : e = M 2 0
      · subst he
        rw [ev_n4, ev_n5, ev_23, ev_23, if_pos (Or.inl rfl)]
        refine ⟨by decide, fun hw => ?_⟩
        rw [if_pos (Or.inr ⟨rfl, hw⟩)]
        decide
      · obtain ⟨x1, x2⟩ := d4 e e0 (by omega)
        rw [ev_s4 (by omega), ev_s5 (by omega), ev_23, ev_23]
        refine ⟨?_, fun hw => ?_⟩
        · split
          · decide
          · exact x1
        · split
          · decide
          · exact x2 hw
    · rw [ev_2] at e0
      rw [ev_o9]
      exact d5 e (by omega)
    · rw [ev_o17] at hj
      rw [ev_o22]
      exact d6 j hj
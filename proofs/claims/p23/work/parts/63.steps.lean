/-! What the writing calls leave of the whole relation -/
section Steps
variable {fi fp : List Nat} {ai ar : Nat → Prop} {h h' : HS} {A : AD} {M M' : MS} {l : List Int} {f : Int → Int} {ow : Nat → Int} {ks : List Nat}
theorem CX.ex (c : CX h A M) (e : Ex h h') (s : SP h A M) (v : VO h A) : CX h' A M := by
  obtain ⟨v0, v60, v61, v62, v63, v64, vn, vnl, vnr, vm, vml, vh, vt, vw, vwl⟩ := v
  obtain ⟨c1, c2, c3, c4, c5, c6, c7, c8⟩ := c
  have o := e (cO A) (by omega)
  have m := e (cM A) (by omega)
  have w := e (cW A) (by omega)
  exact ⟨fun u e0 e1 => by rw [(e (ev A u) (by rw [(s.ve u e0 e1).1]; decide)).2.2.1]; exact c1 u e0 e1, fun j j0 j1 => by rw [m.2.2.2.2.1]; exact c2 j j0 j1, by rw [o.2.2.1]; exact c3, by rw [o.2.2.1]; exact c4, by rw [o.2.2.1]; exact c5, by rw [o.2.2.1]; exact c6, by rw [o.2.2.1]; exact c7, fun j j0 j1 => by rw [w.2.2.2.2.1]; exact c8 j j0 j1⟩
theorem CG.ex (c : CG h A M) (e : Ex h h') (v : VO h A) : CG h' A M := by
  have hok := fun g g0 g1 => c.ok (g := g) g0 g1
  obtain ⟨c1, c2, c3⟩ := c
  have o := e (cO A) (by rw [v.1]; decide)
  exact ⟨by rw [o.2.2.2.1]; exact e.gl c1, by rw [o.2.2.2.1]; exact c2, fun g g0 g1 => by rw [(e (gp A g) (by rw [(hok g g0 g1).1]; decide)).2.2.1]; exact c3 g g0 g1⟩
theorem GL_snoc {A' : AD} : ∀ {n : Nat} {g : Int} {u : Option Nat}, GL h A M (n + 1) g u → (∀ i, g ≤ i → i < g + (n + 1) → grpOK h' A' M' i ∧ gp A' i = gp A i) → (∀ i, g ≤ i → i < g + n → fP h' 36 (gp A i) = fP h 36 (gp A i)) → fP h' 36 (gp A (g + n)) = some (gp A' (g + (n + 1))) → grpOK h' A' M' (g + (n + 1)) → fP h' 36 (gp A' (g + (n + 1))) = none → GL h' A' M' (n + 2) g u := by
  intro n
  induction n with
  | zero =>
    rintro g u ⟨e1, e2, e3⟩ h1 h2 h3 h4 h5
    obtain ⟨a1, a2⟩ := h1 g (by omega) (by omega)
    have z : g + ((0 : Nat) : Int) = g := by omega
    have z2 : g + (((0 : Nat) : Int) + 1) = g + 1 := by omega
    rw [z2] at h3 h4 h5
    rw [z] at h3
    refine ⟨by rw [a2]; exact e1, a1, ?_⟩
    rw [a2, h3]
    exact ⟨rfl, h4, h5⟩
  | succ n ih =>
    rintro g u ⟨e1, e2, e3⟩ h1 h2 h3 h4 h5
    obtain ⟨a1, a2⟩ := h1 g (by omega) (by omega)
    have z1 : g + (((n + 1 : Nat) : Int) + 1) = (g + 1) + ((n : Int) + 1) := by omega
    have z2 : g + ((n + 1 : Nat) : Int) = (g + 1) + (n : Int) := by omega
    rw [z1] at h3 h4 h5
    rw [z2] at h3
    refine ⟨by rw [a2]; exact e1, a1, ?_⟩
    rw [a2, h2 g (by omega) (by omega)]
    exact ih e3 (fun i i0 i1 => h1 i (by omega) (by omega)) (fun i i0 i1 => h2 i (by omega) (by omega)) h3 h4 h5
theorem slC_con (row fr is : Int) : ∀ i : Nat, (i : Int) ≤ M 14 row → slC (conM M row fr is) row i = slC M row i := by
  intro i
  induction i with
  | zero => intro _; rfl
  | succ i ih =>
    intro hi
    simp only [slC]
    rw [ih (by omega), co_15, co_16, if_neg (by omega), if_neg (by omega)]
theorem slC_oth (row fr is : Int) {row' : Int} (hn : 0 ≤ M 14 row ∧ M 14 row < 20) (hr : ¬ row' = row) : ∀ i : Nat, (i : Int) ≤ 20 → slC (conM M row fr is) row' i = slC M row' i := by
  intro i
  induction i with
  | zero => intro _; rfl
  | succ i ih =>
    intro hi
    simp only [slC]
    rw [ih (by omega), co_15, co_16, if_neg (by omega), if_neg (by omega)]
theorem conM_sm (M : MS) (row fr is : Int) : Sm [14, 15, 16] M (conM M row fr is) := fun k q => by
  funext j
  simp only [List.mem_cons, List.not_mem_nil, or_false, not_or] at q
  simp [conM, mset, q.1, q.2.1, q.2.2]
theorem grpM_sm (M : MS) (p what least days : Int) : Sm [17, 18, 19, 20, 21] M (grpM M p what least days) := fun k q => by
  funext j
  simp only [List.mem_cons, List.not_mem_nil, or_false, not_or] at q
  simp [grpM, mset, q.1, q.2.1, q.2.2.1, q.2.2.2.1, q.2.2.2.2]
theorem evM_sm (M : MS) (its dv who what frm time : Int) : Sm [2, 3, 4, 5, 6, 7, 8, 10, 23] M (evM M its dv who what frm time) := fun k q => by
  funext j
  simp only [List.mem_cons, List.not_mem_nil, or_false, not_or] at q
  obtain ⟨q2, q3, q4, q5, q6, q7, q8, q10, q23⟩ := q
  unfold evM
  split <;> simp [mset, q2, q3, q4, q5, q6, q7, q8, q10, q23]
/-- who is who, when an event is in -/
theorem LwI_mem {es es' : List Int} {f : Int → Int} (hm : ∀ e, e ∈ es ↔ e ∈ es') (h : LwI M es f) : LwI M es' f := ⟨fun a h0 h1 => ⟨(h.1 a h0 h1).1, (h.1 a h0 h1).2.1, fun g hg => (h.1 a h0 h1).2.2 g (fun e he hl => hg e ((hm e).mp he) hl)⟩, fun e he hl => h.2 e ((hm e).mpr he) hl⟩
theorem ev_ord {its dv who what frm time : Int} (hO : Ord M l) (hn : 0 ≤ M 2 0) (h9 : M 9 (M 2 0) = 0) : Ord (evM M its dv who what frm time) (insO (evM M its dv who what frm time) (M 2 0) l) := by
  refine ⟨insO_sort (ev_pw hO) (fun q => by have := ((hO.2 _).mp q).1.2; omega), fun e => ?_⟩
  rw [insO_mem, hO.2, ev_2, ev_o9]
  constructor
  · rintro (rfl | ⟨⟨a, b⟩, c⟩)
    · exact ⟨⟨hn, by omega⟩, h9⟩
    · exact ⟨⟨a, by omega⟩, c⟩
  · rintro ⟨⟨a, b⟩, c⟩
    by_cases he : e = M 2 0
    · exact Or.inl he
    · exact Or.inr ⟨⟨a, by omega⟩, c⟩
theorem ev_low {its dv who what frm time : Int} (hM : MI M) (hM' : MI (evM M its dv who what frm time)) (hO : Ord M l) (hf : IsLow M f) (h9 : M 9 (M 2 0) = 0) : IsLow (evM M its dv who what frm time) (jbF (evM M its dv who what frm time) f (M 2 0)) := by
  have hn := hM.n
  have h1 := hf.lwi hO hM
  have h2 : LwI (evM M its dv who what frm time) l f := by
    have hk : ∀ e ∈ l, (lnk0 (evM M its dv who what frm time) e ↔ lnk0 M e) ∧ evM M its dv who what frm time 4 e = M 4 e ∧ evM M its dv who what frm time 5 e = M 5 e := fun e he => by
      have he2 := ((hO.2 e).mp he).1.2
      refine ⟨?_, ev_s4 he2, ev_s5 he2⟩
      unfold lnk0
      rw [ev_s4 he2, ev_s5 he2, ev_o12, ev_o13]
    refine ⟨fun a a0 a1 => ⟨(h1.1 a a0 a1).1, (h1.1 a a0 a1).2.1, fun g hg => (h1.1 a a0 a1).2.2 g (fun e he hl => ?_)⟩, fun e he hl => ?_⟩
    · obtain ⟨k1, k2, k3⟩ := hk e he
      have := hg e he (k1.mpr hl)
      rw [k2, k3] at this
      exact this
    · obtain ⟨k1, k2, k3⟩ := hk e he
      rw [k2, k3]
      exact h1.2 e he (k1.mp hl)
  have h3 := h2.jb hM' (e := M 2 0) (by rw [ev_2]; omega)
  refine LwI.low (ev_ord hO hn.1 h9) (LwI_mem (fun e => ?_) h3)
  rw [insO_mem, List.mem_append, List.mem_singleton]
  exact or_comm
theorem jbF_sm (g : Sm ks M M') (hk : ∀ k ∈ ks, k ∉ [4, 5, 12, 13] := by decide) : jbF M' = jbF M := by
  funext f e
  unfold jbF lnk0
  rw [g 4 (fun q => hk 4 q (by decide)), g 5 (fun q => hk 5 q (by decide)), g 12 (fun q => hk 12 q (by decide)), g 13 (fun q => hk 13 q (by decide))]
end Steps
/-- consent -/
theorem CR.con {h h' : HS} {A : AD} {M : MS} {l : List Int} {f : Int → Int} {ow : Nat → Int} {x p fr is : Int} (c : CR h A M l f ow) (hx : 0 ≤ x ∧ x < 20) (hp : 0 ≤ p ∧ p < 4) (hfr : 0 ≤ fr ∧ fr ≤ M 1 0) (his : is = 0 ∨ is = 1) (hn : M 14 (4 * x + p) < 20) (q : AdQ h h' A ow x p fr is (slC M (4 * x + p) (M 14 (4 * x + p)).toNat)) : RC (cO A) h' (conM M (4 * x + p) fr is) := by
  obtain ⟨cs, cv, ⟨cf, clow⟩, ⟨cch, cord⟩, cns, cx, cg, ce⟩ := id c
  obtain ⟨q, e, hq, hh, hC⟩ := q
  have sM := cs.mi
  have h14 := sM.ch (4 * x + p) (by omega) (by omega)
  have hex := nwC_ex (fr := fr) (is := is) (e := e) hq
  have g := conM_sm M (4 * x + p) fr is
  have hM' := sM.co2 (row := 4 * x + p) (frm := fr) (is := is) (by omega) hn (by have := sM.now; omega) his
  have a : Fr [] [2] nA (fun a => a = lc A x) (nwC h q fr is e) h' := by
    rcases hh with rfl | ⟨b, -, -, rfl⟩
    · exact Fr.sR rfl
    · exact Fr.sP (by decide)
  have hcl : ¬ cN A = lc A x := fun q => by
    have h1 := (cs.no x hx.1 hx.2).2.2.2.1
    rw [← q, cv.2.2.2.2.2.2.1] at h1
    cases h1
  have hrow : ∀ r' k p', ¬ r' = 4 * x + p → CLs h ow r' (aR h (lc A k) p') (slC M r' (M 14 r').toNat) → CLs h' (owU ow q (4 * x + p)) r' (aR h (lc A k) p') (slC M r' (M 14 r').toNat) := fun r' k p' hr hc => by
    have h1 := hex.cls hc
    have h2 : CLs h' ow r' (aR h (lc A k) p') (slC M r' (M 14 r').toNat) := by
      rcases hh with rfl | ⟨b, hb, -, rfl⟩
      · exact CLs.cg (h := nwC h q fr is e) (h' := setR (nwC h q fr is e) (lc A x) p (some q)) rfl rfl rfl rfl h1
      · exact CLs.sP (fun q' => hr (by rw [← q', hb])) h1
    obtain ⟨as, a1, a2⟩ := cls_ads hc
    obtain ⟨bs, b1, b2⟩ := cls_ads h2
    refine ads_cls b1 (CDt_cong (fun z hz => ⟨rfl, rfl, rfl, owU_ne (fun e' => ?_)⟩) b2)
    have h3 := CAd_cong (h' := h') (fun u hu => by
      have ku := (CDt_mem a2 u hu)
      have hu1 := (hex u (by omega)).2.2.2.1 2
      rcases hh with rfl | ⟨b, hb, -, rfl⟩
      · exact hu1
      · rw [fP_set_at (fun e2 => hr (by rw [← ku.2, e2, hb]))]
        exact hu1) a1
    have h4 := CAd_det b1 h3
    subst h4
    have h5 := (CDt_mem a2 z hz).1
    rw [e', hq] at h5
    cases h5
  refine ⟨A, l, f, owU ow q (4 * x + p), rfl, g.sp hM' (a.sp (hex.sp cs)), a.vo (hex.vo cv) hcl, ⟨a.lw (hex.lw cs cf), g.low clow⟩, ⟨a.ch (hex.ch cs cv.2.2.2.2.2.2.2.2.2.2.2.1 c.hl cch), g.ord cord⟩, fun k p' k0 k1 p0 p1 => ?_, ((cx.ex hex cs cv).fr a id id).sm g, ((cg.ex hex cv).fr a).sm g, ce.sm g⟩
  by_cases hr : 4 * k + p' = 4 * x + p
  · obtain rfl : k = x := by omega
    obtain rfl : p' = p := by omega
    have e1 : ((conM M (4 * k + p') fr is) 14 (4 * k + p')).toNat = (M 14 (4 * k + p')).toNat + 1 := by
      rw [co_14, if_pos rfl]; omega
    have e2 : slC (conM M (4 * k + p') fr is) (4 * k + p') ((M 14 (4 * k + p')).toNat + 1) = insC (fr, is) (slC M (4 * k + p') (M 14 (4 * k + p')).toNat) := by
      simp only [slC]
      rw [slC_con _ _ _ _ (by omega), co_15, co_16, if_pos (by omega), if_pos (by omega)]
    rw [e1, e2]
    exact hC
  · have e1 : aR h' (lc A k) p' = aR h (lc A k) p' := by
      rcases hh with rfl | ⟨b, -, -, rfl⟩
      · rw [aR_setR, if_neg (fun q => hr (by rw [ce.1 k x k0 k1 hx.1 hx.2 q.1, q.2]))]
        rfl
      · rfl
    have h14' := sM.ch (4 * k + p') (by omega) (by omega)
    rw [e1, co_14, if_neg hr, slC_oth _ _ _ ⟨h14.1, hn⟩ hr _ (by omega)]
    exact hrow _ k p' hr (cns k p' k0 k1 p0 p1)

set_option maxRecDepth 100000 in
set_option maxHeartbeats 400000 in
theorem cp_tell {l : Launch} {D : va_G} {cy : CY} (hst : l.stackTraces = false) {h : HS} {A : AD} {M : MS} {lz : List Int} {f : Int → Int} {ow : Nat → Int} (c : CR h A M lz f ow)  : Ct l D cy yX6_tell (Cond.code yX6_tell cX6_tell 2 (some .int)) 4 95 0 0 (RepH cy) [vr (some (cO A))] h (fun r h' => CP (cO A) [] bAny (Qm_tell M) r h') := by
  have sM := c.1.mi
  have hll := c.hll
  have hl := c.hl
  obtain ⟨cs, cv, ⟨cf, clow⟩, ⟨cch, cord⟩, cns, cx, cg, ce⟩ := id c
  refine Ct.weaken (k_X6_tell hst cs cv cf cch cord cns cx.2.2.2.2.2.2.1 cg.1 (fun u g u0 u1 g0 g1 q => cg.inj g0 g1 u0 u1 q) cg.2.2) (fun r h' hp => ?_)
  obtain ⟨rfl, h9, hF, hh, hT⟩ := hp
  exact CP.ok rfl trivial (fun rm t' M' hm => by
    obtain ⟨M1, M2, g, rr, rfl, e⟩ := hm
    have h8 := c.tel hF hh hT g rr
    cases e
    exact ⟨h8.1, by rw [h8.2], rfl⟩)

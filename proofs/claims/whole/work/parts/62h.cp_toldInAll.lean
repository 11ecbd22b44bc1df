set_option maxRecDepth 100000 in
set_option maxHeartbeats 400000 in
theorem cp_toldInAll {l : Launch} {D : va_G} {cy : CY} (hst : l.stackTraces = false) {h : HS} {A : AD} {M : MS} {lz : List Int} {f : Int → Int} {ow : Nat → Int} (c : CR h A M lz f ow)  : Ct l D cy yX6_toldInAll (Cond.code yX6_toldInAll cX6_toldInAll 1 (some .int)) 0 0 0 0 (RepH cy) [vr (some (cO A))] h (fun r h' => CP (cO A) [] bAny (Qm_toldInAll M) r h') := by
  have sM := c.1.mi
  have hll := c.hll
  have hl := c.hl
  obtain ⟨cs, cv, ⟨cf, clow⟩, ⟨cch, cord⟩, cns, cx, cg, ce⟩ := id c
  refine Ct.weaken (k_X6_toldInAll (M := M) hst cv) (fun r h' hp => ?_)
  obtain ⟨rfl, rfl⟩ := hp
  exact CP.ok rfl trivial (fun rm t' M' hm => by
    obtain ⟨rfl, e⟩ := hm
    cases e
    exact ⟨⟨A, lz, f, ow, rfl, c⟩, by rw [cx.2.2.2.2.2.1], rfl⟩)

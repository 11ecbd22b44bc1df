set_option maxRecDepth 100000 in
set_option maxHeartbeats 400000 in
theorem cp_time {l : Launch} {D : va_G} {cy : CY} (hst : l.stackTraces = false) {h : HS} {A : AD} {M : MS} {lz : List Int} {f : Int → Int} {ow : Nat → Int} {its : Int} (c : CR h A M lz f ow) (hits : -2147483648 ≤ its ∧ its ≤ 2147483647) : Ct l D cy yX6_time (Cond.code yX6_time cX6_time 3 (some .int)) 2 41 0 0 (RepH cy) [vr (some (cO A)), vi its] h (fun r h' => CP (cO A) [] bAny (Qm_time M its) r h') := by
  have sM := c.1.mi
  have hll := c.hll
  have hl := c.hl
  obtain ⟨cs, cv, ⟨cf, clow⟩, ⟨cch, cord⟩, cns, cx, cg, ce⟩ := id c
  refine Ct.weaken (k_X6_time hst cs cv cch hl hits) (fun r h' hp => ?_)
  obtain ⟨rfl, rfl⟩ := hp
  exact CP.ok rfl trivial (fun rm t' M' hm => by
    obtain ⟨rfl, e⟩ := hm
    cases e
    exact ⟨⟨A, lz, f, ow, rfl, c⟩, by rw [time_eq sM cord ce.2.2.1 its], rfl⟩)

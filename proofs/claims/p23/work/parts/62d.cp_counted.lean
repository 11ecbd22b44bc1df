set_option maxRecDepth 100000 in
set_option maxHeartbeats 400000 in
theorem cp_counted {l : Launch} {D : va_G} {cy : CY} (hst : l.stackTraces = false) {h : HS} {A : AD} {M : MS} {lz : List Int} {f : Int → Int} {ow : Nat → Int} {node p what minute days : Int} (c : CR h A M lz f ow) (hnode : -2147483648 ≤ node ∧ node ≤ 2147483647) (hp : -2147483648 ≤ p ∧ p ≤ 2147483647) (hwhat : -2147483648 ≤ what ∧ what ≤ 2147483647) (hminute : -2147483648 ≤ minute ∧ minute ≤ 2147483647) (hdays : -2147483648 ≤ days ∧ days ≤ 2147483647) : Ct l D cy yX6_counted (Cond.code yX6_counted cX6_counted 7 (some .int)) 6 96 1 6 (RepH cy) [vr (some (cO A)), vi node, vi p, vi what, vi minute, vi days] h (fun r h' => CP (cO A) xIAE bAny (Qm_counted M node p what minute days) r h') := by
  have sM := c.1.mi
  have hll := c.hll
  have hl := c.hl
  obtain ⟨cs, cv, ⟨cf, clow⟩, ⟨cch, cord⟩, cns, cx, cg, ce⟩ := id c
  refine Ct.weaken (k_X6_counted hst cs cv cf cch hl cns hnode hp hwhat hminute hdays) (fun r h' hp => ?_)
  rcases hp with ⟨rfl, ⟨hr, rfl⟩ | ⟨hr, rfl⟩⟩
  · exact CP.ok rfl trivial (fun rm t' M' hm => by
      rcases hm with ⟨-, M1, g, rfl, e⟩ | ⟨hn, -⟩
      · cases e
        exact ⟨⟨A, lz, f, ow, rfl, c.fnd g⟩, by rw [cf_eq sM cord clow g p what minute days hr.1], rfl⟩
      · omega)
  · exact CP.err rfl (k := 1) (by simp) (fun rm t' M' hm => by
      rcases hm with ⟨hn, -⟩ | ⟨-, rfl, e⟩
      · omega
      · cases e
        exact ⟨⟨A, lz, f, ow, rfl, c⟩, rfl, 0, rfl⟩)

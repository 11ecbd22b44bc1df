set_option maxRecDepth 100000 in
set_option maxHeartbeats 400000 in
theorem cp_eventAt {l : Launch} {D : va_G} {cy : CY} (hst : l.stackTraces = false) {h : HS} {A : AD} {M : MS} {lz : List Int} {f : Int → Int} {ow : Nat → Int} {node pl : Int} (c : CR h A M lz f ow) (hnode : -2147483648 ≤ node ∧ node ≤ 2147483647) (hpl : -2147483648 ≤ pl ∧ pl ≤ 2147483647) : Ct l D cy yX6_eventAt (Cond.code yX6_eventAt cX6_eventAt 6 (some .int)) 7 104 2 12 (RepH cy) [vr (some (cO A)), vi node, vi pl] h (fun r h' => CP (cO A) xOI bAny (Qm_eventAt M node pl lz) r h') := by
  have sM := c.1.mi
  have hll := c.hll
  have hl := c.hl
  obtain ⟨cs, cv, ⟨cf, clow⟩, ⟨cch, cord⟩, cns, cx, cg, ce⟩ := id c
  refine Ct.weaken (k_X6_eventAt hst cs cv cf cch hl hll hnode hpl) (fun r h' hp => ?_)
  rcases hp with ⟨rfl, ⟨hr, hpl2, rfl⟩ | ⟨hr, hpl2, rfl⟩ | ⟨hr, rfl⟩⟩
  · exact CP.ok rfl trivial (fun rm t' M' hm => by
      rcases hm with ⟨-, h0, M1, g, hg⟩ | ⟨-, hn, -⟩ | ⟨hn, -⟩
      · have e1 := pr_eq sM cord clow g hr
        have e2 := ((g.sm.ord cord).pr node).at_rng (g.MI sM).n.1 pl.toNat
        rcases hg with ⟨h2, -⟩ | ⟨-, rfl, e⟩
        · have := e2.2.2.mp h2
          rw [e1] at this
          omega
        · cases e
          exact ⟨⟨A, lz, f, ow, rfl, c.fnd g⟩, by rw [e1, g.1 3 (by decide)], rfl⟩
      · omega
      · omega)
  · exact CP.err rfl (k := 1) (by simp) (fun rm t' M' hm => by
      rcases hm with ⟨-, h0, M1, g, hg⟩ | ⟨-, hn, rfl, e⟩ | ⟨hn, -⟩
      · have e1 := pr_eq sM cord clow g hr
        have e2 := ((g.sm.ord cord).pr node).at_rng (g.MI sM).n.1 pl.toNat
        rcases hg with ⟨-, rfl, e⟩ | ⟨h2, -⟩
        · cases e
          exact ⟨⟨A, lz, f, ow, rfl, c.fnd g⟩, rfl, 0, rfl⟩
        · exact absurd (e2.2.2.mpr (by rw [e1]; omega)) h2
      · cases e
        exact ⟨⟨A, lz, f, ow, rfl, c⟩, rfl, 0, rfl⟩
      · omega)
  · exact CP.err rfl (k := 2) (by simp) (fun rm t' M' hm => by
      rcases hm with ⟨hn, -⟩ | ⟨hn, -⟩ | ⟨-, rfl, e⟩
      · omega
      · omega
      · cases e
        exact ⟨⟨A, lz, f, ow, rfl, c⟩, rfl, 0, rfl⟩)

set_option maxRecDepth 100000 in
set_option maxHeartbeats 400000 in
theorem cp_groups {l : Launch} {D : va_G} {cy : CY} (hst : l.stackTraces = false) {h : HS} {A : AD} {M : MS} {lz : List Int} {f : Int → Int} {ow : Nat → Int} {node : Int} (c : CR h A M lz f ow) (hnode : -2147483648 ≤ node ∧ node ≤ 2147483647) : Ct l D cy yX6_groups (Cond.code yX6_groups cX6_groups 5 (some .int)) 7 104 1 6 (RepH cy) [vr (some (cO A)), vi node] h (fun r h' => CP (cO A) xIAE bAny (Qm_groups M node) r h') := by
  have sM := c.1.mi
  have hll := c.hll
  have hl := c.hl
  obtain ⟨cs, cv, ⟨cf, clow⟩, ⟨cch, cord⟩, cns, cx, cg, ce⟩ := id c
  refine Ct.weaken (k_X6_groups hst cs cv cf cch hl hll cns cx.2.2.2.2.2.2.1 cg.1 hnode) (fun r h' hp => ?_)
  rcases hp with ⟨rfl, ⟨hr, rfl⟩ | ⟨hr, rfl⟩⟩
  · exact CP.ok rfl trivial (fun rm t' M' hm => by
      rcases hm with ⟨-, M1, g, rfl, e⟩ | ⟨hn, -⟩
      · have h9 := gr_eq sM cord clow g hr (M 17 0).toNat 0
        rw [Nat.zero_add] at h9
        have h10 := g.1 17 (by decide)
        cases e
        exact ⟨⟨A, lz, f, ow, rfl, c.fnd g⟩, by rw [h10, ← h9]; rfl, rfl⟩
      · omega)
  · exact CP.err rfl (k := 1) (by simp) (fun rm t' M' hm => by
      rcases hm with ⟨hn, -⟩ | ⟨-, rfl, e⟩
      · omega
      · cases e
        exact ⟨⟨A, lz, f, ow, rfl, c⟩, rfl, 0, rfl⟩)

set_option maxRecDepth 100000 in
set_option maxHeartbeats 400000 in
theorem cp_events {l : Launch} {D : va_G} {cy : CY} (hst : l.stackTraces = false) {h : HS} {A : AD} {M : MS} {lz : List Int} {f : Int → Int} {ow : Nat → Int} {node what : Int} (c : CR h A M lz f ow) (hnode : -2147483648 ≤ node ∧ node ≤ 2147483647) (hwhat : -2147483648 ≤ what ∧ what ≤ 2147483647) : Ct l D cy yX6_events (Cond.code yX6_events cX6_events 7 (some .int)) 6 82 1 6 (RepH cy) [vr (some (cO A)), vi node, vi what] h (fun r h' => CP (cO A) xIAE bAny (Qm_events M node what) r h') := by
  have sM := c.1.mi
  have hll := c.hll
  have hl := c.hl
  obtain ⟨cs, cv, ⟨cf, clow⟩, ⟨cch, cord⟩, cns, cx, cg, ce⟩ := id c
  refine Ct.weaken (k_X6_events hst cs cv cf cch hl hnode hwhat) (fun r h' hp => ?_)
  rcases hp with ⟨rfl, ⟨hr, rfl⟩ | ⟨hr, rfl⟩⟩
  · exact CP.ok rfl trivial (fun rm t' M' hm => by
      rcases hm with ⟨-, M1, g, rfl, e⟩ | ⟨hn, -⟩
      · cases e
        exact ⟨⟨A, lz, f, ow, rfl, c.fnd g⟩, by rw [ev_eq sM cord clow g what hr.1], rfl⟩
      · omega)
  · exact CP.err rfl (k := 1) (by simp) (fun rm t' M' hm => by
      rcases hm with ⟨hn, -⟩ | ⟨-, rfl, e⟩
      · omega
      · cases e
        exact ⟨⟨A, lz, f, ow, rfl, c⟩, rfl, 0, rfl⟩)

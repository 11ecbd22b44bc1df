set_option maxRecDepth 100000 in
set_option maxHeartbeats 400000 in
theorem cp_profileAnew {l : Launch} {D : va_G} {cy : CY} (hst : l.stackTraces = false) {h : HS} {A : AD} {M : MS} {lz : List Int} {f : Int → Int} {ow : Nat → Int} {node : Int} (c : CR h A M lz f ow) (hnode : -2147483648 ≤ node ∧ node ≤ 2147483647) : Ct l D cy yX6_profileAnew (Cond.code yX6_profileAnew cX6_profileAnew 3 (some .int)) 7 107 1 6 (RepH cy) [vr (some (cO A)), vi node] h (fun r h' => CP (cO A) xIAE bAny (Qm_profileAnew M node) r h') := by
  have sM := c.1.mi
  have hll := c.hll
  have hl := c.hl
  obtain ⟨cs, cv, ⟨cf, clow⟩, ⟨cch, cord⟩, cns, cx, cg, ce⟩ := id c
  refine Ct.weaken (k_X6_profileAnew hst cs cv cch hl hnode) (fun r h' hp => ?_)
  rcases hp with ⟨hr, hO, hf, rfl⟩ | ⟨hr, rfl, rfl⟩
  · have c2 := c.new hO hf
    exact CP.ok rfl trivial (fun rm t' M' hm => by
      rcases hm with ⟨-, M1, g, rfl, e⟩ | ⟨hn, -⟩
      · cases e
        exact ⟨⟨A, lz, _, ow, rfl, c2.fnd g⟩, by rw [low_eq (low_new sM cord) g _ hr.1 hr.2], rfl⟩
      · omega)
  · exact CP.err rfl (k := 1) (by simp) (fun rm t' M' hm => by
      rcases hm with ⟨hn, -⟩ | ⟨-, rfl, e⟩
      · omega
      · cases e
        exact ⟨⟨A, lz, f, ow, rfl, c⟩, rfl, 0, rfl⟩)

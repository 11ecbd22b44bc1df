set_option maxRecDepth 100000 in
set_option maxHeartbeats 400000 in
theorem cp_group {l : Launch} {D : va_G} {cy : CY} (hst : l.stackTraces = false) {h : HS} {A : AD} {M : MS} {lz : List Int} {f : Int → Int} {ow : Nat → Int} {p what least days : Int} (c : CR h A M lz f ow) (hp : -2147483648 ≤ p ∧ p ≤ 2147483647) (hwhat : -2147483648 ≤ what ∧ what ≤ 2147483647) (hleast : -2147483648 ≤ least ∧ least ≤ 2147483647) (hdays : -2147483648 ≤ days ∧ days ≤ 2147483647) : Ct l D cy yX6_group (Cond.code yX6_group cX6_group 6 (some .int)) 6 82 1 7 (RepH cy) [vr (some (cO A)), vi p, vi what, vi least, vi days] h (fun r h' => CP (cO A) xIS bAny (Qm_group M p what least days) r h') := by
  have sM := c.1.mi
  have hll := c.hll
  have hl := c.hl
  obtain ⟨cs, cv, ⟨cf, clow⟩, ⟨cch, cord⟩, cns, cx, cg, ce⟩ := id c
  refine Ct.weaken (k_X6_group hst cs cv cx.2.2.1 cg.2.1 (fun g g0 g1 => (cg.ok g0 g1).1) hp hwhat hleast hdays) (fun r h' hp => ?_)
  rcases hp with ⟨hr, h17, hG, rfl⟩ | ⟨hr, h17, rfl, rfl⟩ | ⟨hr, rfl, rfl⟩
  · exact CP.ok rfl trivial (fun rm t' M' hm => by
      rcases hm with ⟨-, -, rfl, e⟩ | ⟨-, hn, -⟩ | ⟨hn, -⟩
      · cases e
        exact ⟨c.gro h17 hr.1 hr.2.1 hr.2.2.1 hr.2.2.2 hG, rfl, rfl⟩
      · omega
      · exact absurd hr hn)
  · exact CP.err rfl (k := 2) (by simp) (fun rm t' M' hm => by
      rcases hm with ⟨-, hn, -⟩ | ⟨-, -, rfl, e⟩ | ⟨hn, -⟩
      · omega
      · cases e
        exact ⟨⟨A, lz, f, ow, rfl, c⟩, rfl, 0, rfl⟩
      · exact absurd hr hn)
  · exact CP.err rfl (k := 1) (by simp) (fun rm t' M' hm => by
      rcases hm with ⟨hn, -⟩ | ⟨hn, -⟩ | ⟨-, rfl, e⟩
      · exact absurd hn hr
      · exact absurd hn hr
      · cases e
        exact ⟨⟨A, lz, f, ow, rfl, c⟩, rfl, 0, rfl⟩)

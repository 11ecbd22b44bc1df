set_option maxRecDepth 100000 in
set_option maxHeartbeats 400000 in
theorem cp_told {l : Launch} {D : va_G} {cy : CY} (hst : l.stackTraces = false) {h : HS} {A : AD} {M : MS} {lz : List Int} {f : Int → Int} {ow : Nat → Int} {pl : Int} (c : CR h A M lz f ow) (hpl : -2147483648 ≤ pl ∧ pl ≤ 2147483647) : Ct l D cy yX6_told (Cond.code yX6_told cX6_told 2 (some .int)) 6 82 1 6 (RepH cy) [vr (some (cO A)), vi pl] h (fun r h' => CP (cO A) xIOB bAny (Qm_told M pl) r h') := by
  have sM := c.1.mi
  have hll := c.hll
  have hl := c.hl
  obtain ⟨cs, cv, ⟨cf, clow⟩, ⟨cch, cord⟩, cns, cx, cg, ce⟩ := id c
  refine Ct.weaken (k_X6_told (M := M) hst cv (by rw [cx.2.2.2.2.1]; exact sM.told) hpl) (fun r h' hp => ?_)
  rw [cx.2.2.2.2.1] at hp
  rcases hp with ⟨rfl, ⟨hr, rfl⟩ | ⟨hr, rfl⟩⟩
  · exact CP.ok rfl trivial (fun rm t' M' hm => by
      rcases hm with ⟨-, rfl, e⟩ | ⟨hn, -⟩
      · cases e
        exact ⟨⟨A, lz, f, ow, rfl, c⟩, by rw [cx.2.2.2.2.2.2.2 pl hr.1 hr.2], rfl⟩
      · exact absurd hr hn)
  · exact CP.err rfl (k := 1) (by simp) (fun rm t' M' hm => by
      rcases hm with ⟨hn, -⟩ | ⟨-, rfl, e⟩
      · exact absurd hn hr
      · cases e
        exact ⟨⟨A, lz, f, ow, rfl, c⟩, rfl, 0, rfl⟩)

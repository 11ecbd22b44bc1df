set_option maxRecDepth 100000 in
set_option maxHeartbeats 400000 in
theorem cp_pass {l : Launch} {D : va_G} {cy : CY} (hst : l.stackTraces = false) {h : HS} {A : AD} {M : MS} {lz : List Int} {f : Int → Int} {ow : Nat → Int} {mi : Int} (c : CR h A M lz f ow) (hmi : -2147483648 ≤ mi ∧ mi ≤ 2147483647) : Ct l D cy yX6_pass (Cond.code yX6_pass cX6_pass 2 (some .int)) 6 82 1 6 (RepH cy) [vr (some (cO A)), vi mi] h (fun r h' => CP (cO A) xIS bAny (Qm_pass M mi) r h') := by
  have sM := c.1.mi
  have hll := c.hll
  have hl := c.hl
  obtain ⟨cs, cv, ⟨cf, clow⟩, ⟨cch, cord⟩, cns, cx, cg, ce⟩ := id c
  refine Ct.weaken (k_X6_pass (M := M) hst cv (by rw [cx.2.2.2.2.2.2.1]; exact sM.now) hmi) (fun r h' hp => ?_)
  rw [cx.2.2.2.2.2.2.1] at hp
  rcases hp with ⟨h1, h2, rfl, rfl⟩ | ⟨h1, rfl, rfl⟩ | ⟨h1, h2, rfl, rfl⟩
  · exact CP.ok rfl trivial (fun rm t' M' hm => by
      rcases hm with ⟨-, -, rfl, e⟩ | ⟨-, hn, -⟩ | ⟨hn, -⟩
      · cases e
        exact ⟨c.pas (by have := sM.now; omega), rfl, rfl⟩
      · omega
      · omega)
  · exact CP.err rfl (k := 1) (by simp) (fun rm t' M' hm => by
      rcases hm with ⟨hn, -⟩ | ⟨hn, -⟩ | ⟨-, rfl, e⟩
      · omega
      · omega
      · cases e
        exact ⟨⟨A, lz, f, ow, rfl, c⟩, rfl, 0, rfl⟩)
  · exact CP.err rfl (k := 2) (by simp) (fun rm t' M' hm => by
      rcases hm with ⟨-, hn, -⟩ | ⟨-, -, rfl, e⟩ | ⟨hn, -⟩
      · omega
      · cases e
        exact ⟨⟨A, lz, f, ow, rfl, c⟩, rfl, 0, rfl⟩
      · omega)

set_option maxRecDepth 100000 in
set_option maxHeartbeats 400000 in
theorem cp_skew {l : Launch} {D : va_G} {cy : CY} (hst : l.stackTraces = false) {h : HS} {A : AD} {M : MS} {lz : List Int} {f : Int → Int} {ow : Nat → Int} {dv its : Int} (c : CR h A M lz f ow) (hdv : -2147483648 ≤ dv ∧ dv ≤ 2147483647) (hits : -2147483648 ≤ its ∧ its ≤ 2147483647) : Ct l D cy yX6_skew (Cond.code yX6_skew cX6_skew 6 (some .int)) 6 110 1 6 (RepH cy) [vr (some (cO A)), vi dv, vi its] h (fun r h' => CP (cO A) xIAE bAny (Qm_skew M dv its) r h') := by
  have sM := c.1.mi
  have hll := c.hll
  have hl := c.hl
  obtain ⟨cs, cv, ⟨cf, clow⟩, ⟨cch, cord⟩, cns, cx, cg, ce⟩ := id c
  refine Ct.weaken (k_X6_skew hst cs cv cch cord cx.1 hdv hits) (fun r h' hp => ?_)
  rcases hp with ⟨hr, hS, hF, hm9, ⟨l9, hC, hO⟩, rfl⟩ | ⟨hr, rfl, rfl⟩
  · exact CP.ok rfl trivial (fun rm t' M' hm => by
      rcases hm with ⟨-, rfl, e⟩ | ⟨hn, -⟩
      · cases e
        exact ⟨c.ske hS hF hm9 hC hO, rfl, rfl⟩
      · omega)
  · exact CP.err rfl (k := 1) (by simp) (fun rm t' M' hm => by
      rcases hm with ⟨hn, -⟩ | ⟨-, rfl, e⟩
      · omega
      · cases e
        exact ⟨⟨A, lz, f, ow, rfl, c⟩, rfl, 0, rfl⟩)

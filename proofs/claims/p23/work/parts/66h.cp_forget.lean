set_option maxRecDepth 100000 in
set_option maxHeartbeats 400000 in
theorem cp_forget {l : Launch} {D : va_G} {cy : CY} (hst : l.stackTraces = false) {h : HS} {A : AD} {M : MS} {lz : List Int} {f : Int → Int} {ow : Nat → Int} {node : Int} (c : CR h A M lz f ow) (hnode : -2147483648 ≤ node ∧ node ≤ 2147483647) : Ct l D cy yX6_forget (Cond.code yX6_forget cX6_forget 8 (some .int)) 7 107 1 6 (RepH cy) [vr (some (cO A)), vi node] h (fun r h' => CP (cO A) xIAE bAny (Qm_forget M node) r h') := by
  have sM := c.1.mi
  have hll := c.hll
  have hl := c.hl
  obtain ⟨cs, cv, ⟨cf, clow⟩, ⟨cch, cord⟩, cns, cx, cg, ce⟩ := id c
  refine Ct.weaken (k_X6_forget hst cs cv ce.1 cf cch cord cx.1 hnode) (fun r h' hp => ?_)
  rcases hp with ⟨hr, hF, hm9, hC, hf, hz, rfl⟩ | ⟨hr, rfl, rfl⟩
  · exact CP.ok rfl trivial (fun rm t' M' hm => by
      rcases hm with ⟨-, M1, M2, g, rr, rfl, e⟩ | ⟨hn, -⟩
      · have h9 := ev_eq sM cord clow g (-1) hr
        cases e
        exact ⟨c.forg hr hF hm9 hC hf hz g rr, by rw [h9], rfl⟩
      · omega)
  · exact CP.err rfl (k := 1) (by simp) (fun rm t' M' hm => by
      rcases hm with ⟨hn, -⟩ | ⟨-, rfl, e⟩
      · omega
      · cases e
        exact ⟨⟨A, lz, f, ow, rfl, c⟩, rfl, 0, rfl⟩)

set_option maxRecDepth 100000 in
set_option maxHeartbeats 400000 in
theorem cp_consent {l : Launch} {D : va_G} {cy : CY} (hst : l.stackTraces = false) {h : HS} {A : AD} {M : MS} {lz : List Int} {f : Int → Int} {ow : Nat → Int} {node p frm is : Int} (c : CR h A M lz f ow) (hnode : -2147483648 ≤ node ∧ node ≤ 2147483647) (hp : -2147483648 ≤ p ∧ p ≤ 2147483647) (hfrm : -2147483648 ≤ frm ∧ frm ≤ 2147483647) (his : is = 0 ∨ is = 1) : Ct l D cy yX6_consent (Cond.code yX6_consent cX6_consent 7 (some .int)) 6 82 1 6 (RepH cy) [vr (some (cO A)), vi node, vi p, vi frm, vi is] h (fun r h' => CP (cO A) xIS bAny (Qm_consent M node p frm is) r h') := by
  have sM := c.1.mi
  have hll := c.hll
  have hl := c.hl
  obtain ⟨cs, cv, ⟨cf, clow⟩, ⟨cch, cord⟩, cns, cx, cg, ce⟩ := id c
  refine Ct.weaken (k_X6_consent hst cs cv cns cx.2.2.2.2.2.2.1 his hnode hp hfrm) (fun r h' hp => ?_)
  rcases hp with ⟨hr, h14, hA, rfl⟩ | ⟨hr, h14, rfl, rfl⟩ | ⟨hr, rfl, rfl⟩
  · exact CP.ok rfl trivial (fun rm t' M' hm => by
      rcases hm with ⟨-, -, rfl, e⟩ | ⟨-, hn, -⟩ | ⟨hn, -⟩
      · cases e
        exact ⟨c.con hr.1 hr.2.1 hr.2.2 his h14 hA, rfl, rfl⟩
      · omega
      · omega)
  · exact CP.err rfl (k := 2) (by simp) (fun rm t' M' hm => by
      rcases hm with ⟨-, hn, -⟩ | ⟨-, -, rfl, e⟩ | ⟨hn, -⟩
      · omega
      · cases e
        exact ⟨⟨A, lz, f, ow, rfl, c⟩, rfl, 0, rfl⟩
      · omega)
  · exact CP.err rfl (k := 1) (by simp) (fun rm t' M' hm => by
      rcases hm with ⟨hn, -⟩ | ⟨hn, -⟩ | ⟨-, rfl, e⟩
      · omega
      · omega
      · cases e
        exact ⟨⟨A, lz, f, ow, rfl, c⟩, rfl, 0, rfl⟩)

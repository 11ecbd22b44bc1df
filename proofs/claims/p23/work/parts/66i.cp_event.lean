set_option maxRecDepth 100000 in
set_option maxHeartbeats 400000 in
theorem cp_event {l : Launch} {D : va_G} {cy : CY} (hst : l.stackTraces = false) {h : HS} {A : AD} {M : MS} {lz : List Int} {f : Int → Int} {ow : Nat → Int} {its dv who what frm time : Int} (c : CR h A M lz f ow) (hits : -2147483648 ≤ its ∧ its ≤ 2147483647) (hdv : -2147483648 ≤ dv ∧ dv ≤ 2147483647) (hwho : -2147483648 ≤ who ∧ who ≤ 2147483647) (hwhat : -2147483648 ≤ what ∧ what ≤ 2147483647) (hfrm : -2147483648 ≤ frm ∧ frm ≤ 2147483647) (htime : -2147483648 ≤ time ∧ time ≤ 2147483647) : Ct l D cy yX6_event (Cond.code yX6_event cX6_event 10 (some .boolean)) 6 87 1 9 (RepH cy) [vr (some (cO A)), vi its, vi dv, vi who, vi what, vi frm, vi time] h (fun r h' => CP (cO A) xIS b01 (Qm_event M its dv who what frm time) r h') := by
  have sM := c.1.mi
  have hll := c.hll
  have hl := c.hl
  obtain ⟨cs, cv, ⟨cf, clow⟩, ⟨cch, cord⟩, cns, cx, cg, ce⟩ := id c
  refine Ct.weaken (k_X6_event hst cs cv cf cch cord cx.2.2.2.1 cx.2.1 hits hdv hwho hwhat hfrm htime) (fun r h' hp => ?_)
  rcases hp with ⟨hr, h10, h2, hE, rfl⟩ | ⟨hr, h10, rfl, rfl⟩ | ⟨hr, h10, h2, rfl, rfl⟩ | ⟨hr, rfl, rfl⟩
  · exact CP.ok rfl (Or.inr rfl) (fun rm t' M' hm => by
      rcases hm with ⟨-, -, -, rfl, e⟩ | ⟨-, hn, -⟩ | ⟨-, -, hn, -⟩ | ⟨hn, -⟩
      · cases e
        exact ⟨c.eve h10 h2 hr.1 hr.2.1 hr.2.2.1 hr.2.2.2.1 hr.2.2.2.2.1 hr.2.2.2.2.2 hE, rfl, rfl⟩
      · omega
      · omega
      · exact absurd hr hn)
  · exact CP.ok rfl (Or.inl rfl) (fun rm t' M' hm => by
      rcases hm with ⟨-, hn, -⟩ | ⟨-, -, rfl, e⟩ | ⟨-, hn, -⟩ | ⟨hn, -⟩
      · omega
      · cases e
        exact ⟨⟨A, lz, f, ow, rfl, c⟩, rfl, rfl⟩
      · omega
      · exact absurd hr hn)
  · exact CP.err rfl (k := 2) (by simp) (fun rm t' M' hm => by
      rcases hm with ⟨-, -, hn, -⟩ | ⟨-, hn, -⟩ | ⟨-, -, -, rfl, e⟩ | ⟨hn, -⟩
      · omega
      · omega
      · cases e
        exact ⟨⟨A, lz, f, ow, rfl, c⟩, rfl, 0, rfl⟩
      · exact absurd hr hn)
  · exact CP.err rfl (k := 1) (by simp) (fun rm t' M' hm => by
      rcases hm with ⟨hn, -⟩ | ⟨hn, -⟩ | ⟨hn, -⟩ | ⟨-, rfl, e⟩
      · exact absurd hn hr
      · exact absurd hn hr
      · exact absurd hn hr
      · cases e
        exact ⟨⟨A, lz, f, ow, rfl, c⟩, rfl, 0, rfl⟩)

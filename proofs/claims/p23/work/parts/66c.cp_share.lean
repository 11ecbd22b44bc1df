set_option maxRecDepth 100000 in
set_option maxHeartbeats 400000 in
theorem cp_share {l : Launch} {D : va_G} {cy : CY} (hst : l.stackTraces = false) {h : HS} {A : AD} {M : MS} {lz : List Int} {f : Int → Int} {ow : Nat → Int} {dv is : Int} (c : CR h A M lz f ow) (hdv : -2147483648 ≤ dv ∧ dv ≤ 2147483647) (his : is = 0 ∨ is = 1) : Ct l D cy yX6_share (Cond.code yX6_share cX6_share 5 (some .boolean)) 6 107 1 6 (RepH cy) [vr (some (cO A)), vi dv, vi is] h (fun r h' => CP (cO A) xIAE b01 (Qm_share M dv is) r h') := by
  have sM := c.1.mi
  have hll := c.hll
  have hl := c.hl
  obtain ⟨cs, cv, ⟨cf, clow⟩, ⟨cch, cord⟩, cns, cx, cg, ce⟩ := id c
  refine Ct.weaken (k_X6_share (M' := mset M 12 dv is) hst cs cv his (fun hx => cs.w44 hx his) (fun _ => (Fr.sI (fi := [44]) (fp := []) (ai := nA) (ar := nA) (by decide)).ch cch) (fun e he => hl e he) hdv) (fun r h' hp => ?_)
  rcases hp with ⟨hr, hO, hf, rfl⟩ | ⟨hr, rfl, rfl⟩
  · exact CP.ok rfl (sM.b12 dv) (fun rm t' M' hm => by
      rcases hm with ⟨-, rfl, e⟩ | ⟨hn, -⟩
      · cases e
        exact ⟨c.sha hr his hO hf, rfl, rfl⟩
      · omega)
  · exact CP.err rfl (k := 1) (by simp) (fun rm t' M' hm => by
      rcases hm with ⟨hn, -⟩ | ⟨-, rfl, e⟩
      · omega
      · cases e
        exact ⟨⟨A, lz, f, ow, rfl, c⟩, rfl, 0, rfl⟩)

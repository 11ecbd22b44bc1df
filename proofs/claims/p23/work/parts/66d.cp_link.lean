set_option maxRecDepth 100000 in
set_option maxHeartbeats 400000 in
theorem cp_link {l : Launch} {D : va_G} {cy : CY} (hst : l.stackTraces = false) {h : HS} {A : AD} {M : MS} {lz : List Int} {f : Int → Int} {ow : Nat → Int} {dv who is : Int} (c : CR h A M lz f ow) (hdv : -2147483648 ≤ dv ∧ dv ≤ 2147483647) (hwho : -2147483648 ≤ who ∧ who ≤ 2147483647) (his : is = 0 ∨ is = 1) : Ct l D cy yX6_link (Cond.code yX6_link cX6_link 7 (some .boolean)) 6 107 1 6 (RepH cy) [vr (some (cO A)), vi dv, vi who, vi is] h (fun r h' => CP (cO A) xIAE b01 (Qm_link M dv who is) r h') := by
  have sM := c.1.mi
  have hll := c.hll
  have hl := c.hl
  obtain ⟨cs, cv, ⟨cf, clow⟩, ⟨cch, cord⟩, cns, cx, cg, ce⟩ := id c
  refine Ct.weaken (k_X6_link (M' := mset M 13 (10 * dv + who) (1 - is)) hst cs cv his (fun hx => cs.w43 hx.1 hx.2 his) (fun _ => (Fr.sI (fi := [43]) (fp := []) (ai := nA) (ar := nA) (by decide)).ch cch) (fun e he => hl e he) hdv hwho) (fun r h' hp => ?_)
  rcases hp with ⟨hr, hO, hf, rfl⟩ | ⟨hr, rfl, rfl⟩
  · exact CP.ok rfl (bi_01 _) (fun rm t' M' hm => by
      rcases hm with ⟨-, rfl, e⟩ | ⟨hn, -⟩
      · have h13 : 1 - M 13 (10 * dv + who) = bi (M 13 (10 * dv + who) = 0) := by
          rcases sM.b13 (10 * dv + who) with q | q
          · rw [bi_t q, q]; rfl
          · rw [bi_f (by omega), q]; rfl
        rw [h13]
        cases e
        exact ⟨c.lin hr.1 hr.2 his hO hf, rfl, rfl⟩
      · omega)
  · exact CP.err rfl (k := 1) (by simp) (fun rm t' M' hm => by
      rcases hm with ⟨hn, -⟩ | ⟨-, rfl, e⟩
      · omega
      · cases e
        exact ⟨⟨A, lz, f, ow, rfl, c⟩, rfl, 0, rfl⟩)

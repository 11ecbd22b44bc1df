set_option maxRecDepth 100000 in
set_option maxHeartbeats 400000 in
theorem cp_sessions {l : Launch} {D : va_G} {cy : CY} (hst : l.stackTraces = false) {h : HS} {A : AD} {M : MS} {lz : List Int} {f : Int → Int} {ow : Nat → Int} {node : Int} (c : CR h A M lz f ow) (hnode : -2147483648 ≤ node ∧ node ≤ 2147483647) : Ct l D cy yX6_sessions (Cond.code yX6_sessions cX6_sessions 2 (some .int)) 7 104 1 6 (RepH cy) [vr (some (cO A)), vi node] h (fun r h' => CP (cO A) xIAE bAny (Qm_sessions M node lz) r h') := by
  have sM := c.1.mi
  have hll := c.hll
  have hl := c.hl
  obtain ⟨cs, cv, ⟨cf, clow⟩, ⟨cch, cord⟩, cns, cx, cg, ce⟩ := id c
  refine Ct.weaken (k_X6_sessions hst cs cv cf cch hl hll hnode) (fun r h' hp => ?_)
  obtain ⟨hO, hp⟩ := hp
  have c2 := c.on (hO.fr (fi := [50, 51, 52, 53, 54]) (fp := []) (ai := nA) (ar := nA) (fun q a b => by simp only [List.mem_cons, List.not_mem_nil, or_false]; omega))
  rcases hp with ⟨hr, rfl⟩ | ⟨hr, rfl⟩
  · exact CP.ok rfl trivial (fun rm t' M' hm => by
      rcases hm with ⟨-, M1, g, rfl, e⟩ | ⟨hn, -⟩
      · cases e
        exact ⟨⟨A, lz, f, ow, rfl, c2.fnd g⟩, by rw [sgs_cong (fun e => g.sm.tm e) (g.1 7 (by decide)), pr_eq sM cord clow g hr], rfl⟩
      · omega)
  · exact CP.err rfl (k := 1) (by simp) (fun rm t' M' hm => by
      rcases hm with ⟨hn, -⟩ | ⟨-, rfl, e⟩
      · omega
      · cases e
        exact ⟨⟨A, lz, f, ow, rfl, c2⟩, rfl, 0, rfl⟩)

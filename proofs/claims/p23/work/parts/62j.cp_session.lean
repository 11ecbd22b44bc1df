set_option maxRecDepth 100000 in
set_option maxHeartbeats 400000 in
theorem cp_session {l : Launch} {D : va_G} {cy : CY} (hst : l.stackTraces = false) {h : HS} {A : AD} {M : MS} {lz : List Int} {f : Int → Int} {ow : Nat → Int} {node session what : Int} (c : CR h A M lz f ow) (hnode : -2147483648 ≤ node ∧ node ≤ 2147483647) (hsession : -2147483648 ≤ session ∧ session ≤ 2147483647) (hwhat : -2147483648 ≤ what ∧ what ≤ 2147483647) : Ct l D cy yX6_session (Cond.code yX6_session cX6_session 5 (some .int)) 6 87 1 6 (RepH cy) [vr (some (cO A)), vi node, vi session, vi what] h (fun r h' => CP (cO A) xOI bAny (Qm_session M node session what lz) r h') := by
  have sM := c.1.mi
  have hll := c.hll
  have hl := c.hl
  obtain ⟨cs, cv, ⟨cf, clow⟩, ⟨cch, cord⟩, cns, cx, cg, ce⟩ := id c
  refine Ct.weaken (k_X6_session hst cs cv cf cch hl hll hnode hsession hwhat) (fun r h' hp => ?_)
  rcases hp with ⟨hr, hO, hse, sg, hsg, rfl⟩ | ⟨hr, hO, hse, rfl⟩ | ⟨hr, rfl, rfl⟩
  · have c2 := c.on (hO.fr (fi := [50, 51, 52, 53, 54]) (fp := []) (ai := nA) (ar := nA) (fun q a b => by simp only [List.mem_cons, List.not_mem_nil, or_false]; omega))
    exact CP.ok rfl trivial (fun rm t' M' hm => by
      rcases hm with ⟨-, M1, g, hg⟩ | ⟨hn, -⟩
      · have e1 : sgs M1 (prof M1 lz node) = sgs M (lz.filter (fun e => decide (f (ndOf M e) = f node))) := by rw [sgs_cong (fun e => g.sm.tm e) (g.1 7 (by decide)), pr_eq sM cord clow g hr.1]
        have e2 : gsV M1 (prof M1 lz node) session what = sgV M sg what := by
          unfold gsV
          rw [if_neg (by omega), if_pos hse.1, e1, hsg]
          show sgV M1 sg what = sgV M sg what
          unfold sgV
          rw [g.sm.tm, g.sm.tm]
        rcases gsV_get (g.MI sM) (g.sm.ord cord) node session what (by omega) with ⟨-, hb⟩ | ⟨s9, -, -, -, -, hb, -⟩
        · rw [e1] at hb
          omega
        · rcases hg with ⟨h2, -⟩ | ⟨-, rfl, e⟩
          · omega
          · cases e
            exact ⟨⟨A, lz, f, ow, rfl, c2.fnd g⟩, by rw [e2], rfl⟩
      · omega)
  · have c2 := c.on (hO.fr (fi := [50, 51, 52, 53, 54]) (fp := []) (ai := nA) (ar := nA) (fun q a b => by simp only [List.mem_cons, List.not_mem_nil, or_false]; omega))
    exact CP.err rfl (k := 1) (by simp) (fun rm t' M' hm => by
      rcases hm with ⟨-, M1, g, hg⟩ | ⟨hn, -⟩
      · have e1 : sgs M1 (prof M1 lz node) = sgs M (lz.filter (fun e => decide (f (ndOf M e) = f node))) := by rw [sgs_cong (fun e => g.sm.tm e) (g.1 7 (by decide)), pr_eq sM cord clow g hr.1]
        have e2 : gsV M1 (prof M1 lz node) session what = -2 := gsV_none (by rw [e1]; omega) (by omega)
        rcases hg with ⟨-, rfl, e⟩ | ⟨h2, -⟩
        · cases e
          exact ⟨⟨A, lz, f, ow, rfl, c2.fnd g⟩, rfl, 0, rfl⟩
        · exact absurd e2 h2
      · omega)
  · exact CP.err rfl (k := 2) (by simp) (fun rm t' M' hm => by
      rcases hm with ⟨hn, -⟩ | ⟨-, rfl, e⟩
      · omega
      · cases e
        exact ⟨⟨A, lz, f, ow, rfl, c⟩, rfl, 0, rfl⟩)

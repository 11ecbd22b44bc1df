set_option maxRecDepth 100000 in
set_option maxHeartbeats 400000 in
theorem w_groups {l : Launch} {D : va_G} {cy : CY} (hst : l.stackTraces = false) {h : HS} {A : AD} {M : MS} {lz : List Int} {f : Int → Int} {ow : Nat → Int} {b : Nat → Nat} {ao : Nat} {qm : Int × MS} {o : Int64} {node : Int} (c : CR h A M lz f ow) (hnode : -2147483648 ≤ node ∧ node ≤ 2147483647) : Ct l D cy yL_groups (Cond.codeWith yL_groups cL_groups 4 (some .int) [(0, 9, 12, 13)]) 8 128 1 6 (LW3 cy b ao) [vr (some (cO A)), vi node, vr (some ao)] (h, qm, o) (WP (CP (cO A) xIAE bAny (Qm_groups M node)) xIAE bAny outI qm o) := by
  refine Ct.ofH (own := RL) hst (by decide) rfl (Nat.le_of_ble_eq_true rfl) (cat1 (vr_cat _) (cat1 (vi_cat _) (cat1 (vr_cat _) (cat0)))) ?_
  intro φ C hQ hn hR hl hD
  subst hl hD
  have v0 := c.2.1.1
  refine x_aload_n C dL_groups_0 rfl rfl ?_
  refine x_iconst C dL_groups_1 ?_
  refine x_aload_n C dL_groups_2 rfl rfl ?_
  refine x_iload_n C dL_groups_3 rfl rfl ?_
  refine x_callV C hR cb_X6_groups cv_X6_groups u22_14 (Ct.inH (cp_groups hst c hnode)) (l3_recvH v0 (by decide)) ⟨_, _, rfl⟩ rfl (Nat.le_of_ble_eq_true rfl) rfl dL_groups_4 (by decide) (by decide) (fun E x9 h9 => ?_) (fun r9 x9 h9 => ?_)
  · obtain ⟨h9a, rfl, hP⟩ := h9
    obtain ⟨E1, k1, e1, hm⟩ := hP.1.resolve_left (fun ⟨_, g, _⟩ => by cases g)
    cases e1
    have hm2 := hm
    simp only [List.mem_cons, List.not_mem_nil, or_false, Prod.mk.injEq] at hm2
    rcases hm2 with ⟨rfl, rfl⟩
    · refine xt_catch (pre := []) (suf := []) (sp := 0) (ep := 9) (hp := 12) (ct := 13) C hQ rfl (fun z hz => by cases hz) rfl (by decide) u3_2 (yE := Bundle.initS "java/lang/IllegalArgumentException") rfl im_IAE (fun q9 => ?_)
      refine x_astore_n C dL_groups_12 rfl (by rw [hn]; exact Nat.le_of_ble_eq_true rfl) ?_
      refine x_iconst C dL_groups_13 ?_
      refine x_iretH (ty := .int) C hQ dL_groups_14 rfl rfl (by decide) (by decide) ?_
      exact ⟨_, h9a, hP, Or.inr ⟨_, 1, rfl, hm, rfl, rfl⟩⟩
  · obtain ⟨h9a, rfl, hP⟩ := h9
    obtain ⟨v9, e1, hB⟩ := hP.1.resolve_right (fun ⟨_, _, g, _⟩ => by cases g)
    cases e1
    refine x_i2l C dL_groups_7 ?_
    refine x_last C dL_groups_8 ?_
    refine x_goto (tgt := 15) C dL_groups_9 (by decide) ?_
    refine x_iconst C dL_groups_15 ?_
    refine x_iretH (ty := .int) C hQ dL_groups_16 rfl rfl (by decide) (by decide) ?_
    exact ⟨_, h9a, hP, Or.inl ⟨v9, rfl, hB, rfl, rfl⟩⟩

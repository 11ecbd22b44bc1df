set_option maxRecDepth 100000 in
set_option maxHeartbeats 400000 in
theorem w_eventAt {l : Launch} {D : va_G} {cy : CY} (hst : l.stackTraces = false) {h : HS} {A : AD} {M : MS} {lz : List Int} {f : Int → Int} {ow : Nat → Int} {b : Nat → Nat} {ao : Nat} {qm : Int × MS} {o : Int64} {node pl : Int} (c : CR h A M lz f ow) (hnode : -2147483648 ≤ node ∧ node ≤ 2147483647) (hpl : -2147483648 ≤ pl ∧ pl ≤ 2147483647) : Ct l D cy yL_eventAt (Cond.codeWith yL_eventAt cL_eventAt 5 (some .int) [(0, 10, 13, 56), (0, 10, 17, 13)]) 8 129 2 12 (LW3 cy b ao) [vr (some (cO A)), vi node, vi pl, vr (some ao)] (h, qm, o) (WP (CP (cO A) xOI bAny (Qm_eventAt M node pl lz)) xOI bAny outI qm o) := by
  refine Ct.ofH (own := RL) hst (by decide) rfl (Nat.le_of_ble_eq_true rfl) (cat1 (vr_cat _) (cat1 (vi_cat _) (cat1 (vi_cat _) (cat1 (vr_cat _) (cat0))))) ?_
  intro φ C hQ hn hR hl hD
  subst hl hD
  have v0 := c.2.1.1
  refine x_aload_n C dL_eventAt_0 rfl rfl ?_
  refine x_iconst C dL_eventAt_1 ?_
  refine x_aload_n C dL_eventAt_2 rfl rfl ?_
  refine x_iload_n C dL_eventAt_3 rfl rfl ?_
  refine x_iload_n C dL_eventAt_4 rfl rfl ?_
  refine x_callV C hR cb_X6_eventAt cv_X6_eventAt u17_5 (Ct.inH (cp_eventAt hst c hnode hpl)) (l3_recvH v0 (by decide)) ⟨_, _, rfl⟩ rfl (Nat.le_of_ble_eq_true rfl) rfl dL_eventAt_5 (by decide) (by decide) (fun E x9 h9 => ?_) (fun r9 x9 h9 => ?_)
  · obtain ⟨h9a, rfl, hP⟩ := h9
    obtain ⟨E1, k1, e1, hm⟩ := hP.1.resolve_left (fun ⟨_, g, _⟩ => by cases g)
    cases e1
    have hm2 := hm
    simp only [List.mem_cons, List.not_mem_nil, or_false, Prod.mk.injEq] at hm2
    rcases hm2 with ⟨rfl, rfl⟩ | ⟨rfl, rfl⟩
    · refine xt_catch (pre := []) (suf := [(0, 10, 17, 13)]) (sp := 0) (ep := 10) (hp := 13) (ct := 56) C hQ rfl (fun z hz => by cases hz) rfl (by decide) u17_4 (yE := Bundle.initS "java/lang/IndexOutOfBoundsException") rfl im_IOB (fun q9 => ?_)
      refine x_astore C dL_eventAt_13 (by rw [hn]; exact Nat.le_of_ble_eq_true rfl) ?_
      refine x_iconst C dL_eventAt_15 ?_
      refine x_iretH (ty := .int) C hQ dL_eventAt_16 rfl rfl (by decide) (by decide) ?_
      exact ⟨_, h9a, hP, Or.inr ⟨_, 1, rfl, hm, rfl, rfl⟩⟩
    · refine xt_catch (pre := [(0, 10, 13, 56)]) (suf := []) (sp := 0) (ep := 10) (hp := 17) (ct := 13) C hQ rfl (fun z hz => by rw [List.mem_singleton.mp hz]; exact ⟨"java/lang/IndexOutOfBoundsException", (by decide : (56 : Nat) ≠ 0), u17_4, by simp [NCS]⟩) rfl (by decide) u3_2 (yE := Bundle.initS "java/lang/IllegalArgumentException") rfl im_IAE (fun q9 => ?_)
      refine x_astore C dL_eventAt_17 (by rw [hn]; exact Nat.le_of_ble_eq_true rfl) ?_
      refine x_iconst C dL_eventAt_19 ?_
      refine x_iretH (ty := .int) C hQ dL_eventAt_20 rfl rfl (by decide) (by decide) ?_
      exact ⟨_, h9a, hP, Or.inr ⟨_, 2, rfl, hm, rfl, rfl⟩⟩
  · obtain ⟨h9a, rfl, hP⟩ := h9
    obtain ⟨v9, e1, hB⟩ := hP.1.resolve_right (fun ⟨_, _, g, _⟩ => by cases g)
    cases e1
    refine x_i2l C dL_eventAt_8 ?_
    refine x_last C dL_eventAt_9 ?_
    refine x_goto (tgt := 21) C dL_eventAt_10 (by decide) ?_
    refine x_iconst C dL_eventAt_21 ?_
    refine x_iretH (ty := .int) C hQ dL_eventAt_22 rfl rfl (by decide) (by decide) ?_
    exact ⟨_, h9a, hP, Or.inl ⟨v9, rfl, hB, rfl, rfl⟩⟩

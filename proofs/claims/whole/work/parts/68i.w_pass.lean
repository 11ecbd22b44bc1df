set_option maxRecDepth 100000 in
set_option maxHeartbeats 400000 in
theorem w_pass {l : Launch} {D : va_G} {cy : CY} (hst : l.stackTraces = false) {h : HS} {A : AD} {M : MS} {lz : List Int} {f : Int → Int} {ow : Nat → Int} {b : Nat → Nat} {ao : Nat} {qm : Int × MS} {o : Int64} {mi : Int} (c : CR h A M lz f ow) (hmi : -2147483648 ≤ mi ∧ mi ≤ 2147483647) : Ct l D cy yL_pass (Cond.codeWith yL_pass cL_pass 4 (some .int) [(0, 9, 12, 13), (0, 9, 15, 15)]) 7 103 1 6 (LW3 cy b ao) [vr (some (cO A)), vi mi, vr (some ao)] (h, qm, o) (WP (CP (cO A) xIS bAny (Qm_pass M mi)) xIS bAny outI qm o) := by
  refine Ct.ofH (own := RL) hst (by decide) rfl (Nat.le_of_ble_eq_true rfl) (cat1 (vr_cat _) (cat1 (vi_cat _) (cat1 (vr_cat _) (cat0)))) ?_
  intro φ C hQ hn hR hl hD
  subst hl hD
  have v0 := c.2.1.1
  refine x_aload_n C dL_pass_0 rfl rfl ?_
  refine x_iconst C dL_pass_1 ?_
  refine x_aload_n C dL_pass_2 rfl rfl ?_
  refine x_iload_n C dL_pass_3 rfl rfl ?_
  refine x_callV C hR cb_X6_pass cv_X6_pass u15_6 (Ct.inH (cp_pass hst c hmi)) (l3_recvH v0 (by decide)) ⟨_, _, rfl⟩ rfl (Nat.le_of_ble_eq_true rfl) rfl dL_pass_4 (by decide) (by decide) (fun E x9 h9 => ?_) (fun r9 x9 h9 => ?_)
  · obtain ⟨h9a, rfl, hP⟩ := h9
    obtain ⟨E1, k1, e1, hm⟩ := hP.1.resolve_left (fun ⟨_, g, _⟩ => by cases g)
    cases e1
    have hm2 := hm
    simp only [List.mem_cons, List.not_mem_nil, or_false, Prod.mk.injEq] at hm2
    rcases hm2 with ⟨rfl, rfl⟩ | ⟨rfl, rfl⟩
    · refine xt_catch (pre := []) (suf := [(0, 9, 15, 15)]) (sp := 0) (ep := 9) (hp := 12) (ct := 13) C hQ rfl (fun z hz => by cases hz) rfl (by decide) u3_2 (yE := Bundle.initS "java/lang/IllegalArgumentException") rfl im_IAE (fun q9 => ?_)
      refine x_astore_n C dL_pass_12 rfl (by rw [hn]; exact Nat.le_of_ble_eq_true rfl) ?_
      refine x_iconst C dL_pass_13 ?_
      refine x_iretH (ty := .int) C hQ dL_pass_14 rfl rfl (by decide) (by decide) ?_
      exact ⟨_, h9a, hP, Or.inr ⟨_, 1, rfl, hm, rfl, rfl⟩⟩
    · refine xt_catch (pre := [(0, 9, 12, 13)]) (suf := []) (sp := 0) (ep := 9) (hp := 15) (ct := 15) C hQ rfl (fun z hz => by rw [List.mem_singleton.mp hz]; exact ⟨"java/lang/IllegalArgumentException", (by decide : (13 : Nat) ≠ 0), u3_2, by simp [NCS]⟩) rfl (by decide) u3_3 (yE := Bundle.initS "java/lang/IllegalStateException") rfl im_ISE (fun q9 => ?_)
      refine x_astore_n C dL_pass_15 rfl (by rw [hn]; exact Nat.le_of_ble_eq_true rfl) ?_
      refine x_iconst C dL_pass_16 ?_
      refine x_iretH (ty := .int) C hQ dL_pass_17 rfl rfl (by decide) (by decide) ?_
      exact ⟨_, h9a, hP, Or.inr ⟨_, 2, rfl, hm, rfl, rfl⟩⟩
  · obtain ⟨h9a, rfl, hP⟩ := h9
    obtain ⟨v9, e1, hB⟩ := hP.1.resolve_right (fun ⟨_, _, g, _⟩ => by cases g)
    cases e1
    refine x_i2l C dL_pass_7 ?_
    refine x_last C dL_pass_8 ?_
    refine x_goto (tgt := 18) C dL_pass_9 (by decide) ?_
    refine x_iconst C dL_pass_18 ?_
    refine x_iretH (ty := .int) C hQ dL_pass_19 rfl rfl (by decide) (by decide) ?_
    exact ⟨_, h9a, hP, Or.inl ⟨v9, rfl, hB, rfl, rfl⟩⟩

set_option maxRecDepth 100000 in
set_option maxHeartbeats 400000 in
theorem w_consent {l : Launch} {D : va_G} {cy : CY} (hst : l.stackTraces = false) {h : HS} {A : AD} {M : MS} {lz : List Int} {f : Int → Int} {ow : Nat → Int} {b : Nat → Nat} {ao : Nat} {qm : Int × MS} {o : Int64} {node p frm is : Int} (c : CR h A M lz f ow) (hnode : -2147483648 ≤ node ∧ node ≤ 2147483647) (hp : -2147483648 ≤ p ∧ p ≤ 2147483647) (hfrm : -2147483648 ≤ frm ∧ frm ≤ 2147483647) (his : is = 0 ∨ is = 1) : Ct l D cy yL_consent (Cond.codeWith yL_consent cL_consent 7 (some .int) [(0, 14, 17, 13), (0, 14, 21, 15)]) 7 108 1 6 (LW3 cy b ao) [vr (some (cO A)), vi node, vi p, vi frm, vi is, vr (some ao)] (h, qm, o) (WP (CP (cO A) xIS bAny (Qm_consent M node p frm is)) xIS bAny outI qm o) := by
  refine Ct.ofH (own := RL) hst (by decide) rfl (Nat.le_of_ble_eq_true rfl) (cat1 (vr_cat _) (cat1 (vi_cat _) (cat1 (vi_cat _) (cat1 (vi_cat _) (cat1 (vi_cat _) (cat1 (vr_cat _) (cat0))))))) ?_
  intro φ C hQ hn hR hl hD
  subst hl hD
  have v0 := c.2.1.1
  refine x_aload C dL_consent_0 rfl ?_
  refine x_iconst C dL_consent_2 ?_
  refine x_aload_n C dL_consent_3 rfl rfl ?_
  refine x_iload_n C dL_consent_4 rfl rfl ?_
  refine x_iload_n C dL_consent_5 rfl rfl ?_
  refine x_iload_n C dL_consent_6 rfl rfl ?_
  refine x_iload C dL_consent_7 rfl ?_
  refine x_callV C hR cb_X6_consent cv_X6_consent u10_9 (Ct.inH (cp_consent hst c hnode hp hfrm his)) (l3_recvH v0 (by decide)) ⟨_, _, rfl⟩ rfl (Nat.le_of_ble_eq_true rfl) rfl dL_consent_9 (by decide) (by decide) (fun E x9 h9 => ?_) (fun r9 x9 h9 => ?_)
  · obtain ⟨h9a, rfl, hP⟩ := h9
    obtain ⟨E1, k1, e1, hm⟩ := hP.1.resolve_left (fun ⟨_, g, _⟩ => by cases g)
    cases e1
    have hm2 := hm
    simp only [List.mem_cons, List.not_mem_nil, or_false, Prod.mk.injEq] at hm2
    rcases hm2 with ⟨rfl, rfl⟩ | ⟨rfl, rfl⟩
    · refine xt_catch (pre := []) (suf := [(0, 14, 21, 15)]) (sp := 0) (ep := 14) (hp := 17) (ct := 13) C hQ rfl (fun z hz => by cases hz) rfl (by decide) u3_2 (yE := Bundle.initS "java/lang/IllegalArgumentException") rfl im_IAE (fun q9 => ?_)
      refine x_astore C dL_consent_17 (by rw [hn]; exact Nat.le_of_ble_eq_true rfl) ?_
      refine x_iconst C dL_consent_19 ?_
      refine x_iretH (ty := .int) C hQ dL_consent_20 rfl rfl (by decide) (by decide) ?_
      exact ⟨_, h9a, hP, Or.inr ⟨_, 1, rfl, hm, rfl, rfl⟩⟩
    · refine xt_catch (pre := [(0, 14, 17, 13)]) (suf := []) (sp := 0) (ep := 14) (hp := 21) (ct := 15) C hQ rfl (fun z hz => by rw [List.mem_singleton.mp hz]; exact ⟨"java/lang/IllegalArgumentException", (by decide : (13 : Nat) ≠ 0), u3_2, by simp [NCS]⟩) rfl (by decide) u3_3 (yE := Bundle.initS "java/lang/IllegalStateException") rfl im_ISE (fun q9 => ?_)
      refine x_astore C dL_consent_21 (by rw [hn]; exact Nat.le_of_ble_eq_true rfl) ?_
      refine x_iconst C dL_consent_23 ?_
      refine x_iretH (ty := .int) C hQ dL_consent_24 rfl rfl (by decide) (by decide) ?_
      exact ⟨_, h9a, hP, Or.inr ⟨_, 2, rfl, hm, rfl, rfl⟩⟩
  · obtain ⟨h9a, rfl, hP⟩ := h9
    obtain ⟨v9, e1, hB⟩ := hP.1.resolve_right (fun ⟨_, _, g, _⟩ => by cases g)
    cases e1
    refine x_i2l C dL_consent_12 ?_
    refine x_last C dL_consent_13 ?_
    refine x_goto (tgt := 25) C dL_consent_14 (by decide) ?_
    refine x_iconst C dL_consent_25 ?_
    refine x_iretH (ty := .int) C hQ dL_consent_26 rfl rfl (by decide) (by decide) ?_
    exact ⟨_, h9a, hP, Or.inl ⟨v9, rfl, hB, rfl, rfl⟩⟩

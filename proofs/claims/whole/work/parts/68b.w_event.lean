set_option maxRecDepth 100000 in
set_option maxHeartbeats 400000 in
theorem w_event {l : Launch} {D : va_G} {cy : CY} (hst : l.stackTraces = false) {h : HS} {A : AD} {M : MS} {lz : List Int} {f : Int → Int} {ow : Nat → Int} {b : Nat → Nat} {ao : Nat} {qm : Int × MS} {o : Int64} {its dv who what frm time : Int} (c : CR h A M lz f ow) (hits : -2147483648 ≤ its ∧ its ≤ 2147483647) (hdv : -2147483648 ≤ dv ∧ dv ≤ 2147483647) (hwho : -2147483648 ≤ who ∧ who ≤ 2147483647) (hwhat : -2147483648 ≤ what ∧ what ≤ 2147483647) (hfrm : -2147483648 ≤ frm ∧ frm ≤ 2147483647) (htime : -2147483648 ≤ time ∧ time ≤ 2147483647) : Ct l D cy yL_event (Cond.codeWith yL_event cL_event 9 (some .int) [(0, 25, 28, 13), (0, 25, 32, 15)]) 7 116 1 9 (LW3 cy b ao) [vr (some (cO A)), vi its, vi dv, vi who, vi what, vi frm, vi time, vr (some ao)] (h, qm, o) (WP (CP (cO A) xIS b01 (Qm_event M its dv who what frm time)) xIS b01 outB qm o) := by
  refine Ct.ofH (own := RL) hst (by decide) rfl (Nat.le_of_ble_eq_true rfl) (cat1 (vr_cat _) (cat1 (vi_cat _) (cat1 (vi_cat _) (cat1 (vi_cat _) (cat1 (vi_cat _) (cat1 (vi_cat _) (cat1 (vi_cat _) (cat1 (vr_cat _) (cat0))))))))) ?_
  intro φ C hQ hn hR hl hD
  subst hl hD
  have v0 := c.2.1.1
  refine x_aload C dL_event_0 rfl ?_
  refine x_iconst C dL_event_2 ?_
  refine x_aload_n C dL_event_3 rfl rfl ?_
  refine x_iload_n C dL_event_4 rfl rfl ?_
  refine x_iload_n C dL_event_5 rfl rfl ?_
  refine x_iload_n C dL_event_6 rfl rfl ?_
  refine x_iload C dL_event_7 rfl ?_
  refine x_iload C dL_event_9 rfl ?_
  refine x_iload C dL_event_11 rfl ?_
  refine x_callV C hR cb_X6_event cv_X6_event u3_4 (Ct.inH (cp_event hst c hits hdv hwho hwhat hfrm htime)) (l3_recvH v0 (by decide)) ⟨_, _, rfl⟩ rfl (Nat.le_of_ble_eq_true rfl) rfl dL_event_13 (by decide) (by decide) (fun E x9 h9 => ?_) (fun r9 x9 h9 => ?_)
  · obtain ⟨h9a, rfl, hP⟩ := h9
    obtain ⟨E1, k1, e1, hm⟩ := hP.1.resolve_left (fun ⟨_, g, _⟩ => by cases g)
    cases e1
    have hm2 := hm
    simp only [List.mem_cons, List.not_mem_nil, or_false, Prod.mk.injEq] at hm2
    rcases hm2 with ⟨rfl, rfl⟩ | ⟨rfl, rfl⟩
    · refine xt_catch (pre := []) (suf := [(0, 25, 32, 15)]) (sp := 0) (ep := 25) (hp := 28) (ct := 13) C hQ rfl (fun z hz => by cases hz) rfl (by decide) u3_2 (yE := Bundle.initS "java/lang/IllegalArgumentException") rfl im_IAE (fun q9 => ?_)
      refine x_astore C dL_event_28 (by rw [hn]; exact Nat.le_of_ble_eq_true rfl) ?_
      refine x_iconst C dL_event_30 ?_
      refine x_iretH (ty := .int) C hQ dL_event_31 rfl rfl (by decide) (by decide) ?_
      exact ⟨_, h9a, hP, Or.inr ⟨_, 1, rfl, hm, rfl, rfl⟩⟩
    · refine xt_catch (pre := [(0, 25, 28, 13)]) (suf := []) (sp := 0) (ep := 25) (hp := 32) (ct := 15) C hQ rfl (fun z hz => by rw [List.mem_singleton.mp hz]; exact ⟨"java/lang/IllegalArgumentException", (by decide : (13 : Nat) ≠ 0), u3_2, by simp [NCS]⟩) rfl (by decide) u3_3 (yE := Bundle.initS "java/lang/IllegalStateException") rfl im_ISE (fun q9 => ?_)
      refine x_astore C dL_event_32 (by rw [hn]; exact Nat.le_of_ble_eq_true rfl) ?_
      refine x_iconst C dL_event_34 ?_
      refine x_iretH (ty := .int) C hQ dL_event_35 rfl rfl (by decide) (by decide) ?_
      exact ⟨_, h9a, hP, Or.inr ⟨_, 2, rfl, hm, rfl, rfl⟩⟩
  · obtain ⟨h9a, rfl, hP⟩ := h9
    obtain ⟨v9, e1, hB⟩ := hP.1.resolve_right (fun ⟨_, _, g, _⟩ => by cases g)
    cases e1
    have hB : v9 = 0 ∨ v9 = 1 := hB
    refine x_if_eq (tgt := 23) C dL_event_16 (by decide) (by omega) (fun h16 => ?_) (fun h16 => ?_)
    ·
      refine x_lconst (v := 0) C dL_event_23 rfl ?_
      refine x_last C dL_event_24 ?_
      refine x_goto (tgt := 36) C dL_event_25 (by decide) ?_
      refine x_iconst C dL_event_36 ?_
      refine x_iretH (ty := .int) C hQ dL_event_37 rfl rfl (by decide) (by decide) ?_
      exact ⟨_, h9a, hP, Or.inl ⟨v9, rfl, hB, rfl, by rw [outB_0 h16]⟩⟩
    ·
      refine x_lconst (v := 1) C dL_event_19 rfl ?_
      refine x_goto (tgt := 24) C dL_event_20 (by decide) ?_
      refine x_last C dL_event_24 ?_
      refine x_goto (tgt := 36) C dL_event_25 (by decide) ?_
      refine x_iconst C dL_event_36 ?_
      refine x_iretH (ty := .int) C hQ dL_event_37 rfl rfl (by decide) (by decide) ?_
      exact ⟨_, h9a, hP, Or.inl ⟨v9, rfl, hB, rfl, by rw [outB_1 h16]⟩⟩

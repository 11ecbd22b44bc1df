set_option maxRecDepth 100000 in
set_option maxHeartbeats 400000 in
theorem w_share {l : Launch} {D : va_G} {cy : CY} (hst : l.stackTraces = false) {h : HS} {A : AD} {M : MS} {lz : List Int} {f : Int → Int} {ow : Nat → Int} {b : Nat → Nat} {ao : Nat} {qm : Int × MS} {o : Int64} {dv is : Int} (c : CR h A M lz f ow) (hdv : -2147483648 ≤ dv ∧ dv ≤ 2147483647) (his : is = 0 ∨ is = 1) : Ct l D cy yL_share (Cond.codeWith yL_share cL_share 5 (some .int) [(0, 17, 20, 13)]) 7 131 1 6 (LW3 cy b ao) [vr (some (cO A)), vi dv, vi is, vr (some ao)] (h, qm, o) (WP (CP (cO A) xIAE b01 (Qm_share M dv is)) xIAE b01 outB qm o) := by
  refine Ct.ofH (own := RL) hst (by decide) rfl (Nat.le_of_ble_eq_true rfl) (cat1 (vr_cat _) (cat1 (vi_cat _) (cat1 (vi_cat _) (cat1 (vr_cat _) (cat0))))) ?_
  intro φ C hQ hn hR hl hD
  subst hl hD
  have v0 := c.2.1.1
  refine x_aload_n C dL_share_0 rfl rfl ?_
  refine x_iconst C dL_share_1 ?_
  refine x_aload_n C dL_share_2 rfl rfl ?_
  refine x_iload_n C dL_share_3 rfl rfl ?_
  refine x_iload_n C dL_share_4 rfl rfl ?_
  refine x_callV C hR cb_X6_share cv_X6_share u8_21 (Ct.inH (cp_share hst c hdv his)) (l3_recvH v0 (by decide)) ⟨_, _, rfl⟩ rfl (Nat.le_of_ble_eq_true rfl) rfl dL_share_5 (by decide) (by decide) (fun E x9 h9 => ?_) (fun r9 x9 h9 => ?_)
  · obtain ⟨h9a, rfl, hP⟩ := h9
    obtain ⟨E1, k1, e1, hm⟩ := hP.1.resolve_left (fun ⟨_, g, _⟩ => by cases g)
    cases e1
    have hm2 := hm
    simp only [List.mem_cons, List.not_mem_nil, or_false, Prod.mk.injEq] at hm2
    rcases hm2 with ⟨rfl, rfl⟩
    · refine xt_catch (pre := []) (suf := []) (sp := 0) (ep := 17) (hp := 20) (ct := 13) C hQ rfl (fun z hz => by cases hz) rfl (by decide) u3_2 (yE := Bundle.initS "java/lang/IllegalArgumentException") rfl im_IAE (fun q9 => ?_)
      refine x_astore C dL_share_20 (by rw [hn]; exact Nat.le_of_ble_eq_true rfl) ?_
      refine x_iconst C dL_share_22 ?_
      refine x_iretH (ty := .int) C hQ dL_share_23 rfl rfl (by decide) (by decide) ?_
      exact ⟨_, h9a, hP, Or.inr ⟨_, 1, rfl, hm, rfl, rfl⟩⟩
  · obtain ⟨h9a, rfl, hP⟩ := h9
    obtain ⟨v9, e1, hB⟩ := hP.1.resolve_right (fun ⟨_, _, g, _⟩ => by cases g)
    cases e1
    have hB : v9 = 0 ∨ v9 = 1 := hB
    refine x_if_eq (tgt := 15) C dL_share_8 (by decide) (by omega) (fun h8 => ?_) (fun h8 => ?_)
    ·
      refine x_lconst (v := 0) C dL_share_15 rfl ?_
      refine x_last C dL_share_16 ?_
      refine x_goto (tgt := 24) C dL_share_17 (by decide) ?_
      refine x_iconst C dL_share_24 ?_
      refine x_iretH (ty := .int) C hQ dL_share_25 rfl rfl (by decide) (by decide) ?_
      exact ⟨_, h9a, hP, Or.inl ⟨v9, rfl, hB, rfl, by rw [outB_0 h8]⟩⟩
    ·
      refine x_lconst (v := 1) C dL_share_11 rfl ?_
      refine x_goto (tgt := 16) C dL_share_12 (by decide) ?_
      refine x_last C dL_share_16 ?_
      refine x_goto (tgt := 24) C dL_share_17 (by decide) ?_
      refine x_iconst C dL_share_24 ?_
      refine x_iretH (ty := .int) C hQ dL_share_25 rfl rfl (by decide) (by decide) ?_
      exact ⟨_, h9a, hP, Or.inl ⟨v9, rfl, hB, rfl, by rw [outB_1 h8]⟩⟩

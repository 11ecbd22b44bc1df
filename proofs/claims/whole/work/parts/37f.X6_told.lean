set_option maxRecDepth 100000 in
set_option maxHeartbeats 400000 in
theorem k_X6_told {l : Launch} {D : va_G} {cy : CY} (hst : l.stackTraces = false) {h : HS} {A : AD} {M : MS} {x : Int} (v : VO h A) (hch : 0 ≤ fI h 69 (cO A) ∧ fI h 69 (cO A) ≤ 160) (hx : -2147483648 ≤ x ∧ x ≤ 2147483647) : Ct l D cy yX6_told (Cond.code yX6_told cX6_told 2 (some .int)) 6 82 1 6 (RepH cy) [vr (some (cO A)), vi x] h (fun r h' => h' = h ∧ (((0 ≤ x ∧ x < fI h 69 (cO A)) ∧ r = .ok (some (vi (aI h (cW A) x)))) ∨ (¬ (0 ≤ x ∧ x < fI h 69 (cO A)) ∧ r = .error "java/lang/IndexOutOfBoundsException"))) := by
  refine Ct.of1 (own := RX6) hst (by decide) rfl (Nat.le_of_ble_eq_true rfl) (cat1 (vr_cat _) (cat1 (vi_cat _) (cat0))) ?_
  intro φ C hQ hn hR hl hD
  subst hl hD
  obtain ⟨v0, v60, v61, v62, v63, v64, vn, vnl, vnr, vm, vml, vh, vt, vw, vwl⟩ := id v
  refine x_iload_n C dX6_told_0 rfl rfl ?_
  refine x_if_lt (tgt := 21) C dX6_told_1 (by decide) (by first | omega | exact bi_rng _) (fun h1 => ?_) (fun h1 => ?_)
  ·
    refine x_throwS C hQ hR th_IOB (List.mem_of_getElem? (i := 13) rfl) dX6_told_21 dX6_told_24 dX6_told_25 dX6_told_27 dX6_told_30 (by decide) (by decide) (by decide) (by decide) ?_
    exact ⟨rfl, Or.inr ⟨by omega, rfl⟩⟩
  ·
    refine x_iload_n C dX6_told_4 rfl rfl ?_
    refine x_aload_n C dX6_told_5 rfl rfl ?_
    refine h_get6 (f := 9) C v0 (by decide) u23_10 rfl rfl dX6_told_6 ?_
    refine x_icmp_ge (tgt := 21) C dX6_told_9 (by decide) (by first | omega | exact bi_rng _) (by first | omega | exact bi_rng _) (fun h9 => ?_) (fun h9 => ?_)
    ·
      refine x_throwS C hQ hR th_IOB (List.mem_of_getElem? (i := 13) rfl) dX6_told_21 dX6_told_24 dX6_told_25 dX6_told_27 dX6_told_30 (by decide) (by decide) (by decide) (by decide) ?_
      exact ⟨rfl, Or.inr ⟨by omega, rfl⟩⟩
    ·
      refine x_iload_n C dX6_told_12 rfl rfl ?_
      refine x_aload_n C dX6_told_13 rfl rfl ?_
      refine h_get6 (f := 4) C v0 (by decide) u1_4 rfl rfl dX6_told_14 ?_
      simp only [v64]
      refine h_alen C (by omega) dX6_told_17 ?_
      simp only [vwl]
      refine x_icmp_lt (tgt := 31) C dX6_told_18 (by decide) (by first | omega | exact bi_rng _) (by first | omega | exact bi_rng _) (fun h18 => ?_) (fun h18 => ?_)
      ·
        refine x_aload_n C dX6_told_31 rfl rfl ?_
        refine h_get6 (f := 4) C v0 (by decide) u1_4 rfl rfl dX6_told_32 ?_
        simp only [v64]
        refine x_iload_n C dX6_told_35 rfl rfl ?_
        refine h_iald C vw (by omega) (by omega) dX6_told_36 ?_
        refine x_iret (ty := .int) C hQ dX6_told_37 rfl rfl (by decide) (by decide) ?_
        exact ⟨rfl, Or.inl ⟨by omega, rfl⟩⟩
      ·
        refine x_throwS C hQ hR th_IOB (List.mem_of_getElem? (i := 13) rfl) dX6_told_21 dX6_told_24 dX6_told_25 dX6_told_27 dX6_told_30 (by decide) (by decide) (by decide) (by decide) ?_
        exact ⟨rfl, Or.inr ⟨by omega, rfl⟩⟩

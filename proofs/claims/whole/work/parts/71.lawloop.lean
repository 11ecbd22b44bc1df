/-! The law's loop -/
set_option maxRecDepth 100000 in
set_option maxHeartbeats 1000000 in
theorem law_loop {φ : Fx} {cy : CY} {bs Ls : Nat} {xs : Nat → Int32} {b : Nat → Nat} {ao ob : Nat} (C : Cx φ cL_law RL ret cy) (hQ : LawRet φ) (hR : ROf φ = RLaw) (hn : nLof φ = 7) (hX : SX φ bs Ls xs) (hL : Ls ≤ 3584) : ∀ (d j : Nat) (h : HS) (q : Int × MS) (o : Int64), d + j = 512 → RC ob h q.2 → X φ (LW3 cy b ao (h, q, o)) (70 + 2 * j) (7640 + 12 * j) 23 (LL bs ob (b 0) ao (7 * (j : Int))) [] := by
  intro d
  induction d with
  | zero =>
    intro j h q o hd R
    refine x_iload C dL_law_23 rfl ?_
    refine x_aload_n C dL_law_25 rfl rfl ?_
    refine x_slen C hX dL_law_26 ?_
    refine x_bipush C dL_law_27 (by decide) ?_
    refine x_isub C dL_law_29 ?_
    refine x_icmp_gt (tgt := 1492) C dL_law_30 (by decide) (by omega) (by omega) (fun _ => ?_) (fun h30 => absurd h30 (by omega))
    refine x_iconst C dL_law_1492 ?_
    exact x_lawret C hQ (by omega) (by omega) dL_law_1493
  | succ d ih =>
    intro j h q o hd R
    obtain ⟨t0, M⟩ := q
    refine x_iload C dL_law_23 rfl ?_
    refine x_aload_n C dL_law_25 rfl rfl ?_
    refine x_slen C hX dL_law_26 ?_
    refine x_bipush C dL_law_27 (by decide) ?_
    refine x_isub C dL_law_29 ?_
    refine x_icmp_gt (tgt := 1492) C dL_law_30 (by decide) (by omega) (by omega) (fun _ => ?_) (fun h30 => ?_)
    · refine x_iconst C dL_law_1492 ?_
      exact x_lawret C hQ (by omega) (by omega) dL_law_1493
    have hi : 0 ≤ 7 * (j : Int) ∧ 7 * (j : Int) + 7 ≤ Ls := by omega
    have hk : 70 + 2 * j + 2 ≤ 601024 ∧ 7640 + 12 * j + 12 ≤ 7293034 := by omega
    have K : ∀ (h1 : HS) (q1 : Int × MS) (o1 : Int64), RC ob h1 q1.2 → X φ (LW3 cy b ao (h1, q1, o1)) (70 + 2 * j + 2) (7640 + 12 * j + 12) 1486 (LL bs ob (b 0) ao (7 * (j : Int))) [] := by
      intro h1 q1 o1 R1
      refine x_iinc C dL_law_1486 (by rw [hn]; exact Nat.le_of_ble_eq_true rfl) rfl ?_
      refine x_goto (tgt := 23) C dL_law_1489 (by decide) ?_
      refine X.loc (L' := LL bs ob (b 0) ao (7 * ((j + 1 : Nat) : Int))) ⟨rfl, rfl, rfl, rfl, lkv (z := 7 * (j : Int) + 7) (z' := 7 * ((j + 1 : Nat) : Int)) (by omega), trivial⟩ (X.mono ?_ ?_ (ih (j + 1) h1 q1 o1 (by omega) R1))
      · omega
      · omega
    refine x_aload_n C dL_law_33 rfl rfl ?_
    refine x_iload C dL_law_34 rfl ?_
    refine x_sld C hX hL (by omega) dL_law_36 ?_
    refine x_bipush C dL_law_37 (by decide) ?_
    refine x_iand C dL_law_39 ?_
    have hz := and31 (sc xs (7 * (j : Int)))
    generalize bOp (· &&& ·) (sc xs (7 * (j : Int))) 31 = z at hz ⊢
    rcases (show z = 0 ∨ z = 1 ∨ z = 2 ∨ z = 3 ∨ z = 4 ∨ z = 5 ∨ z = 6 ∨ z = 7 ∨ z = 8 ∨ z = 9 ∨ z = 10 ∨ z = 11 ∨ z = 12 ∨ z = 13 ∨ z = 14 ∨ z = 15 ∨ z = 16 ∨ z = 17 ∨ z = 18 ∨ z = 19 ∨ 19 < z by omega) with h40 | h40 | h40 | h40 | h40 | h40 | h40 | h40 | h40 | h40 | h40 | h40 | h40 | h40 | h40 | h40 | h40 | h40 | h40 | h40 | h40
    · exact x_tswIn (j := 0) (tgt := 136) C dL_law_40 h40 (by decide) rfl (by decide) (law_event C hR hn hX hL hi hk R K)
    · exact x_tswIn (j := 1) (tgt := 261) C dL_law_40 h40 (by decide) rfl (by decide) (law_skew C hR hn hX hL hi hk R K)
    · exact x_tswIn (j := 2) (tgt := 329) C dL_law_40 h40 (by decide) rfl (by decide) (law_share C hR hn hX hL hi hk R K)
    · exact x_tswIn (j := 3) (tgt := 420) C dL_law_40 h40 (by decide) rfl (by decide) (law_link C hR hn hX hL hi hk R K)
    · exact x_tswIn (j := 4) (tgt := 523) C dL_law_40 h40 (by decide) rfl (by decide) (law_consent C hR hn hX hL hi hk R K)
    · exact x_tswIn (j := 5) (tgt := 631) C dL_law_40 h40 (by decide) rfl (by decide) (law_group C hR hn hX hL hi hk R K)
    · exact x_tswIn (j := 6) (tgt := 723) C dL_law_40 h40 (by decide) rfl (by decide) (law_forget C hR hn hX hL hi hk R K)
    · exact x_tswIn (j := 7) (tgt := 779) C dL_law_40 h40 (by decide) rfl (by decide) (law_pass C hR hn hX hL hi hk R K)
    · exact x_tswIn (j := 8) (tgt := 835) C dL_law_40 h40 (by decide) rfl (by decide) (law_profile C hR hn hX hL hi hk R K)
    · exact x_tswIn (j := 9) (tgt := 891) C dL_law_40 h40 (by decide) rfl (by decide) (law_profileAnew C hR hn hX hL hi hk R K)
    · exact x_tswIn (j := 10) (tgt := 947) C dL_law_40 h40 (by decide) rfl (by decide) (law_events C hR hn hX hL hi hk R K)
    · exact x_tswIn (j := 11) (tgt := 1015) C dL_law_40 h40 (by decide) rfl (by decide) (law_eventAt C hR hn hX hL hi hk R K)
    · exact x_tswIn (j := 12) (tgt := 1083) C dL_law_40 h40 (by decide) rfl (by decide) (law_time C hR hn hX hL hi hk R K)
    · exact x_tswIn (j := 13) (tgt := 1108) C dL_law_40 h40 (by decide) rfl (by decide) (law_sessions C hR hn hX hL hi hk R K)
    · exact x_tswIn (j := 14) (tgt := 1164) C dL_law_40 h40 (by decide) rfl (by decide) (law_session C hR hn hX hL hi hk R K)
    · exact x_tswIn (j := 15) (tgt := 1244) C dL_law_40 h40 (by decide) rfl (by decide) (law_counted C hR hn hX hL hi hk R K)
    · exact x_tswIn (j := 16) (tgt := 1348) C dL_law_40 h40 (by decide) rfl (by decide) (law_groups C hR hn hX hL hi hk R K)
    · exact x_tswIn (j := 17) (tgt := 1404) C dL_law_40 h40 (by decide) rfl (by decide) (law_tell C hR hn hX hL hi hk R K)
    · exact x_tswIn (j := 18) (tgt := 1417) C dL_law_40 h40 (by decide) rfl (by decide) (law_told C hR hn hX hL hi hk R K)
    · exact x_tswIn (j := 19) (tgt := 1473) C dL_law_40 h40 (by decide) rfl (by decide) (law_toldInAll C hR hn hX hL hi hk R K)
    · exact x_tswOut (tgt := 1486) C dL_law_40 ⟨h40, by omega⟩ (by decide) ((K h (t0, M) o R).mono (by omega) (by omega))

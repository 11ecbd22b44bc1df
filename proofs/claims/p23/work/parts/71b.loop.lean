/-! The law's turns -/
set_option maxRecDepth 100000 in
set_option maxHeartbeats 1000000 in
theorem law_loop {φ : Fx} {cy : CY} {bs Ls : Nat} {xs : Nat → Int32} {ba : Nat → Nat} {ob : Nat} (C : Cx φ cL_law RL ret cy) (hQ : LawRet φ) (hR : ROf φ = RLaw) (hn : nLof φ = 19) (hX : SX φ bs Ls xs) (hLs : Ls ≤ 260) : ∀ (d t : Nat) (h : HS) (V M : MS), d + t = 56 → GI ob h V M → M 1 0 ≤ 1440 + 1500 * (t : Int) → X φ (LA cy ba (h, V)) (200 + 600 * t) (3000 + 5000 * t) 60 [(0, vr (some bs)), (1, vr (some ob)), (2, vr (some (ba 0))), (3, vr (some (ba 1))), (4, vr (some (ba 2))), (5, vr (some (ba 3))), (6, vr (some (ba 4))), (7, vi (M 2 0)), (8, vi (M 1 0)), (9, vi (t : Int))] [] := by
  have hst := C.st
  intro d
  induction d with
  | zero =>
    intro t h V M hd G hnw
    have hn0 := G.1.mi.n
    refine x_iload C dL_law_60 rfl ?_
    refine x_bipush C dL_law_62 (by decide) ?_
    refine x_icmp_ge (tgt := 855) C dL_law_64 (by decide) (by first | omega | exact bi_rng _) (by first | omega | exact bi_rng _) (fun h64 => ?_) (fun h64 => ?_)
    ·
      refine x_iconst C dL_law_855 ?_
      exact x_lawret C hQ (by omega) (by omega) dL_law_856
    ·
      exfalso; omega
  | succ d ih =>
    intro t h V M hd G hnw
    have hn0 := G.1.mi.n
    refine x_iload C dL_law_60 rfl ?_
    refine x_bipush C dL_law_62 (by decide) ?_
    refine x_icmp_ge (tgt := 855) C dL_law_64 (by decide) (by first | omega | exact bi_rng _) (by first | omega | exact bi_rng _) (fun h64 => ?_) (fun h64 => ?_)
    ·
      refine x_iconst C dL_law_855 ?_
      exact x_lawret C hQ (by omega) (by omega) dL_law_856
    ·
      refine x_aload_n C dL_law_67 rfl rfl ?_
      refine x_iconst C dL_law_68 ?_
      refine x_iload C dL_law_69 rfl ?_
      refine x_imul C dL_law_71 ?_
      refine x_callC C hX hR cb_L_cell u3_5 u3_4 (k_L_cell hst hLs (by omega)) rfl (Nat.le_of_ble_eq_true rfl) rfl dL_law_72 (by decide) (by show _ ≤ 600074 ∧ _ ≤ 7301550; omega) (fun E x9 h9 => by obtain ⟨-, z, -, g⟩ := h9; cases g) (fun r9 x9 h9 => ?_)
      obtain ⟨rfl, x, hx, e9⟩ := h9
      cases e9
      refine x_istore C dL_law_75 (by rw [hn]; exact Nat.le_of_ble_eq_true rfl) ?_
      refine x_aload_n C dL_law_77 rfl rfl ?_
      refine x_iconst C dL_law_78 ?_
      refine x_iload C dL_law_79 rfl ?_
      refine x_imul C dL_law_81 ?_
      refine x_iconst C dL_law_82 ?_
      refine x_iadd C dL_law_83 ?_
      refine x_callC C hX hR cb_L_cell u3_5 u3_4 (k_L_cell hst hLs (by omega)) rfl (Nat.le_of_ble_eq_true rfl) rfl dL_law_84 (by decide) (by show _ ≤ 600074 ∧ _ ≤ 7301550; omega) (fun E x9 h9 => by obtain ⟨-, z, -, g⟩ := h9; cases g) (fun r9 x9 h9 => ?_)
      obtain ⟨rfl, y, hy, e9⟩ := h9
      cases e9
      refine x_istore C dL_law_87 (by rw [hn]; exact Nat.le_of_ble_eq_true rfl) ?_
      refine x_iload C dL_law_89 rfl ?_
      refine x_bipush C dL_law_91 (by decide) ?_
      refine x_callS C hR cb_L_low u3_11 u3_10 (k_L_low hst (by first | omega | exact bOp_in _ _ _) (by decide)) rfl (Nat.le_of_ble_eq_true rfl) rfl dL_law_93 (by decide) (by show _ ≤ 600074 ∧ _ ≤ 7301550; omega) (fun E x9 h9 => absurd h9.1 (by intro h; cases h)) (fun r9 x9 h9 => ?_)
      obtain ⟨e9, rfl⟩ := h9
      cases e9
      obtain ⟨kd, hkd⟩ : ∃ z, z = lwF x 12 := ⟨_, rfl⟩
      rw [← hkd]
      have gkd := lwF_in (v := x) (n := 12) (by decide)
      rw [← hkd] at gkd
      refine x_istore C dL_law_96 (by rw [hn]; exact Nat.le_of_ble_eq_true rfl) ?_
      refine x_iload C dL_law_98 rfl ?_
      refine x_iconst C dL_law_100 ?_
      refine x_ishr C dL_law_101 ?_
      refine x_iconst C dL_law_102 ?_
      refine x_callS C hR cb_L_low u3_11 u3_10 (k_L_low hst (by first | omega | exact bOp_in _ _ _) (by decide)) rfl (Nat.le_of_ble_eq_true rfl) rfl dL_law_103 (by decide) (by show _ ≤ 600074 ∧ _ ≤ 7301550; omega) (fun E x9 h9 => absurd h9.1 (by intro h; cases h)) (fun r9 x9 h9 => ?_)
      obtain ⟨e9, rfl⟩ := h9
      cases e9
      obtain ⟨dv, hdv⟩ : ∃ z, z = lwF (bOp (fun x y => x >>> (y &&& 31)) x 5) 3 := ⟨_, rfl⟩
      rw [← hdv]
      have gdv := lwF_in (v := (bOp (fun x y => x >>> (y &&& 31)) x 5)) (n := 3) (by decide)
      rw [← hdv] at gdv
      refine x_istore C dL_law_106 (by rw [hn]; exact Nat.le_of_ble_eq_true rfl) ?_
      refine x_iload C dL_law_108 rfl ?_
      refine x_bipush C dL_law_110 (by decide) ?_
      refine x_ishr C dL_law_112 ?_
      refine x_iconst C dL_law_113 ?_
      refine x_callS C hR cb_L_low u3_11 u3_10 (k_L_low hst (by first | omega | exact bOp_in _ _ _) (by decide)) rfl (Nat.le_of_ble_eq_true rfl) rfl dL_law_114 (by decide) (by show _ ≤ 600074 ∧ _ ≤ 7301550; omega) (fun E x9 h9 => absurd h9.1 (by intro h; cases h)) (fun r9 x9 h9 => ?_)
      obtain ⟨e9, rfl⟩ := h9
      cases e9
      obtain ⟨a0, ha0⟩ : ∃ z, z = lwF (bOp (fun x y => x >>> (y &&& 31)) x 7) 4 := ⟨_, rfl⟩
      rw [← ha0]
      have ga0 := lwF_in (v := (bOp (fun x y => x >>> (y &&& 31)) x 7)) (n := 4) (by decide)
      rw [← ha0] at ga0
      refine x_iconst C dL_law_117 ?_
      refine x_isub C dL_law_118 ?_
      refine x_istore C dL_law_119 (by rw [hn]; exact Nat.le_of_ble_eq_true rfl) ?_
      refine x_iload C dL_law_121 rfl ?_
      refine x_bipush C dL_law_123 (by decide) ?_
      refine x_callS C hR cb_L_low u3_11 u3_10 (k_L_low hst (by first | omega | exact bOp_in _ _ _) (by decide)) rfl (Nat.le_of_ble_eq_true rfl) rfl dL_law_125 (by decide) (by show _ ≤ 600074 ∧ _ ≤ 7301550; omega) (fun E x9 h9 => absurd h9.1 (by intro h; cases h)) (fun r9 x9 h9 => ?_)
      obtain ⟨e9, rfl⟩ := h9
      cases e9
      obtain ⟨nd, hnd⟩ : ∃ z, z = lwF y 6 := ⟨_, rfl⟩
      rw [← hnd]
      have gnd := lwF_in (v := y) (n := 6) (by decide)
      rw [← hnd] at gnd
      refine x_istore C dL_law_128 (by rw [hn]; exact Nat.le_of_ble_eq_true rfl) ?_
      refine x_aload_n C dL_law_130 rfl rfl ?_
      refine x_aload_n C dL_law_131 rfl rfl ?_
      refine x_aload C dL_law_132 rfl ?_
      refine x_iload C dL_law_134 rfl ?_
      refine x_callS C hR cb_L_finds u3_15 u3_14 (k_L_finds hst G.2.1 G.1.mi G.2.2.2) rfl (Nat.le_of_ble_eq_true rfl) rfl dL_law_136 (by decide) (by show _ ≤ 600074 ∧ _ ≤ 7301550; omega) (fun E x9 h9 => absurd h9.1 (by intro h; cases h)) (fun r9 x9 h9 => ?_)
      obtain ⟨e9, V1, rfl, hc, f, hf, hv⟩ := h9
      cases e9
      obtain ⟨M1, G1, e1, e2⟩ := G.fnd hc hf hv
      clear hc hf hv f
      rw [← e2, ← e1]
      have K810 : ∀ (h2 : HS) (V2 M2 : MS), GI ob h2 V2 M2 → M2 1 0 ≤ M1 1 0 + 1500 → X φ (LA cy ba (h2, V2)) (200 + 600 * t + 100) (3000 + 5000 * t + 1000) 810 (LL bs ob ba (M2 2 0) (M2 1 0) (t : Int) y) [] := by
        intro h2 V2 M2 G2 hle
        refine x_aload_n C dL_law_810 rfl rfl ?_
        refine x_aload_n C dL_law_811 rfl rfl ?_
        refine x_aload C dL_law_812 rfl ?_
        refine x_iload C dL_law_814 rfl ?_
        refine x_callS C hR cb_L_finds u3_15 u3_14 (k_L_finds hst G2.2.1 G2.1.mi G2.2.2.2) rfl (Nat.le_of_ble_eq_true rfl) rfl dL_law_816 (by decide) (by show _ ≤ 600074 ∧ _ ≤ 7301550; omega) (fun E x9 h9 => absurd h9.1 (by intro h; cases h)) (fun r9 x9 h9 => ?_)
        obtain ⟨e9, V3, rfl, hc, f, hf, hv⟩ := h9
        cases e9
        obtain ⟨M3, G3, e5, e6⟩ := G2.fnd hc hf hv
        clear hc hf hv f
        rw [← e6, ← e5]
        refine x_aload_n C dL_law_819 rfl rfl ?_
        refine x_aload_n C dL_law_820 rfl rfl ?_
        refine x_aload_n C dL_law_821 rfl rfl ?_
        refine x_aload C dL_law_822 rfl ?_
        refine x_aload C dL_law_824 rfl ?_
        refine x_aload C dL_law_826 rfl ?_
        refine x_iload C dL_law_828 rfl ?_
        refine x_iload C dL_law_830 rfl ?_
        refine x_iconst C dL_law_832 ?_
        refine x_ishr C dL_law_833 ?_
        refine x_bipush C dL_law_834 (by decide) ?_
        refine x_callS8 C hR cb_L_low u3_11 u3_10 (k_L_low hst (by first | omega | exact bOp_in _ _ _) (by decide)) rfl (Nat.le_of_ble_eq_true rfl) rfl dL_law_836 (by decide) (by show _ ≤ 600074 ∧ _ ≤ 7301550; omega) (fun E x9 h9 => absurd h9.1 (by intro h; cases h)) (fun r9 x9 h9 => ?_)
        obtain ⟨e9, rfl⟩ := h9
        cases e9
        obtain ⟨n8, hn8⟩ : ∃ z, z = lwF (bOp (fun x y => x >>> (y &&& 31)) y 3) 6 := ⟨_, rfl⟩
        rw [← hn8]
        have gn8 := lwF_in (v := (bOp (fun x y => x >>> (y &&& 31)) y 3)) (n := 6) (by decide)
        rw [← hn8] at gn8
        refine x_iload C dL_law_839 rfl ?_
        refine x_callS C hR cb_L_same u11_20 u11_19 (k_L_same hst G3.1.2.1 G3.1.1.mi G3.1.2.2.2 G3.1.1 G3.2.1 G3.2.2 G3.1.2.2.1 gn8) rfl (Nat.le_of_ble_eq_true rfl) rfl dL_law_841 (by decide) (by show _ ≤ 600074 ∧ _ ≤ 7301550; omega) (fun E x9 h9 => absurd h9.1 (by intro h; cases h)) (fun r9 x9 h9 => ?_)
        obtain ⟨e9, h4, rfl, R4⟩ := h9
        cases e9
        refine x_if_ne (tgt := 849) C dL_law_844 (by decide) (by decide) (fun _ => ?_) (fun h => absurd h (by decide))
        refine x_iinc C dL_law_849 (by rw [hn]; exact Nat.le_of_ble_eq_true rfl) rfl ?_
        refine x_goto (tgt := 60) C dL_law_852 (by decide) ?_
        exact X.mono (by omega) (by omega) (X.to (ih (t + 1) h4 V3 M3 (by omega) ⟨R4, G3.1.2⟩ (by omega)) (lsc (rfl) (lsc (rfl) (lsc (rfl) (lsc (rfl) (lsc (rfl) (lsc (rfl) (lsc (rfl) (lsc (rfl) (lsc (rfl) (lsc (lkv (by omega)) (lsn))))))))))))
      exact X.mono (by omega) (by omega) (X.to (law_act C hR hn (by omega) G1 (by omega) hx hy gdv (by omega) gnd gkd K810) (lsc (rfl) (lsc (rfl) (lsc (rfl) (lsc (rfl) (lsc (rfl) (lsc (rfl) (lsc (rfl) (lsc (rfl) (lsc (rfl) (lsc (rfl) (lsc (rfl) (lsc (rfl) (lsc (rfl) (lsc (rfl) (lsc (rfl) (lsc (rfl) (lsn))))))))))))))))))

/-! The law's entry: the object, the reference and the row of one long are made -/
set_option maxRecDepth 100000 in
set_option maxHeartbeats 1000000 in
theorem law_entry {φ : Fx} {cy : CY} {bs Ls : Nat} {xs : Nat → Int32} (C : Cx φ cL_law RL ret cy) (hQ : LawRet φ) (hR : ROf φ = RLaw) (hn : nLof φ = 7) (hX : SX φ bs Ls xs) (hL : Ls ≤ 3584) : X φ (RepH cy hE) 0 0 0 [(0, vr (some bs))] [] := by
  have hst := C.st
  refine h_new6 C hR u0_0 u0_1 u0_2 ⟨(by omega : 0 + 1 ≤ 601024), (by omega : 0 + 12 ≤ 7293034)⟩ dL_law_0 (fun ob hob => ?_)
  refine x_dup C dL_law_3 (vr_cat _) ?_
  refine x_callI C hR cb_X6_init u0_8 rfl u0_7 (k_X6_init (A := (0, 0, 0, 0, 0, 0, fun _ => 0, fun _ => 0, fun _ => 0, fun _ => 0)) (M := M0) hst (h := newO hE 7 ob) (ob := ob) (if_pos rfl) (fun f => if_pos rfl) (fun f => if_pos rfl)) rfl (Nat.le_of_ble_eq_true rfl) rfl dL_law_4 (by decide) ⟨(by omega : 0 + 1 + 45 ≤ 601024), (by omega : 0 + 12 + 1407 ≤ 7293034)⟩ (fun E x9 h9 => by obtain ⟨g, _⟩ := h9; cases g) (fun r9 h1 h9 => ?_)
  obtain ⟨e9, A, rfl, hI⟩ := h9
  cases e9
  refine x_astore_n C dL_law_7 rfl (by rw [hn]; exact Nat.le_of_ble_eq_true rfl) ?_
  refine x_newM C hR u0_3 u0_4 u0_5 ⟨(by omega : 0 + 1 + 45 + 1 ≤ 601024), (by omega : 0 + 12 + 1407 + 28 ≤ 7293034)⟩ dL_law_8 (fun mo => ?_)
  refine x_dup C dL_law_11 (vr_cat _) ?_
  refine x_callI C hR cb_X7_init u1_20 rfl u1_19 (Ct.inE (k_X7_init hst (b0 := mo))) rfl (Nat.le_of_ble_eq_true rfl) rfl dL_law_12 (by decide) ⟨(by omega : 0 + 1 + 45 + 1 + 22 ≤ 601024), (by omega : 0 + 12 + 1407 + 28 + 6192 ≤ 7293034)⟩ (fun E x9 h9 => by obtain ⟨_, _, g, _⟩ := h9; cases g) (fun r9 x9 h9 => ?_)
  obtain ⟨V, rfl, e9, b, rfl, rfl⟩ := h9
  cases e9
  refine x_astore_n C dL_law_15 rfl (by rw [hn]; exact Nat.le_of_ble_eq_true rfl) ?_
  refine x_iconst C dL_law_16 ?_
  refine x_newL C hR ⟨(by omega : 0 + 1 + 45 + 1 + 22 + 1 ≤ 601024), (by omega : 0 + 12 + 1407 + 28 + 6192 + 1 ≤ 7293034)⟩ dL_law_17 (fun ao => ?_)
  refine x_astore_n C dL_law_19 rfl (by rw [hn]; exact Nat.le_of_ble_eq_true rfl) ?_
  refine x_iconst C dL_law_20 ?_
  refine x_istore C dL_law_21 (by rw [hn]; exact Nat.le_of_ble_eq_true rfl) ?_
  refine X.loc (L' := LL bs (cO A) (b 0) ao (7 * ((0 : Nat) : Int))) ⟨rfl, rfl, rfl, rfl, lkv (z := 0) (z' := 7 * ((0 : Nat) : Int)) (by omega), trivial⟩ (X.mono ?_ ?_ (law_loop C hQ hR hn hX hL 512 0 h1 (0, M0) 0 rfl (ini_rc hI)))
  · omega
  · omega

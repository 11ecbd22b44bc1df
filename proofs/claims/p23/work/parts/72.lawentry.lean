/-! The law's entry: the object and the five arrays are made, the group is told -/
def M0 : MS := mset (fun _ _ => 0) 1 0 1440
theorem m0_z {k : Nat} (hk : k ≠ 1) (j : Int) : M0 k j = 0 := by simp [M0, mset, hk]
theorem m0_1 : M0 1 0 = 1440 := by simp [M0, mset]
theorem mi_0 : MI M0 := by
  refine ⟨by rw [m0_z (by decide)]; decide, by rw [m0_1]; decide, fun e e0 e1 => ?_, fun d d0 d1 => by rw [m0_z (by decide)]; decide, fun r r0 r1 => by rw [m0_z (by decide)]; decide, fun r k r0 r1 k0 k1 => ?_, by rw [m0_z (by decide)]; decide, fun g g0 g1 => ?_, by rw [m0_z (by decide)]; decide, fun k k0 k1 => by rw [m0_z (by decide)]; decide, fun k j hk => Or.inl (m0_z (by omega) j)⟩
  · rw [m0_z (by decide)] at e1; omega
  · rw [m0_z (by decide)] at k1; omega
  · rw [m0_z (by decide)] at g1; omega
/-- the object and the reference as they are made -/
theorem ini_rc {h : HS} {A : AD} (n : INI h A) : RC (cO A) h M0 := by
  obtain ⟨nv, nn, nl, ⟨n20, n21⟩, nM, ⟨n67, n68, n69, n70, n71⟩, n65, n66⟩ := n
  have z2 : M0 2 0 = 0 := m0_z (by decide) 0
  have z17 : M0 17 0 = 0 := m0_z (by decide) 0
  refine ⟨A, [], fun k => k, fun _ => 0, rfl, ⟨mi_0, fun k k0 k1 => ?_, fun d d0 d1 => ?_, fun e e0 e1 => by rw [z2] at e1; omega⟩, nv, ⟨fun k k0 k1 => ?_, fun a a0 a1 => ⟨⟨a0, Int.le_refl _⟩, Conn.rf _ _⟩, fun x y hxy => ?_⟩, ⟨⟨n20, n21⟩, List.Pairwise.nil, fun e => ?_⟩, fun k p k0 k1 p0 p1 => ?_, ⟨fun e e0 e1 => by rw [z2] at e1; omega, fun j _ _ => by rw [nM, m0_z (by decide)], by rw [n67, z17], by rw [n68, z2], by rw [n69, m0_z (by decide)], by rw [n70, m0_z (by decide)], by rw [n71, m0_1], fun j j0 j1 => by rw [m0_z (by decide)] at j1; omega⟩, ⟨?_, ?_, fun g g0 g1 => by rw [z17] at g1; omega⟩, ⟨nl, fun e e0 e1 => by rw [z2] at e1; omega, fun e u e0 e1 _ _ _ => by rw [z2] at e1; omega, fun e e0 e1 => by rw [z2] at e1; omega, fun e _ => m0_z (by decide) e, fun j _ => m0_z (by decide) j⟩⟩
  · obtain ⟨m1, m2, m3, m4, m5, -⟩ := nn k k0 k1
    exact ⟨m1, m2, m3, m4, m5⟩
  · obtain ⟨m1, m2, m3, m4, m5, m6, m7, m8, m9, m10⟩ := nn (10 + d) (by omega) (by omega)
    refine ⟨by rw [m8, m0_z (by decide)], by rw [m9, m0_z (by decide)], ?_⟩
    rw [m7]
    refine bw_0.cong (fun j hj => ?_)
    rw [m0_z (by decide)]
    constructor
    · intro q; exact q.elim
    · intro q; omega
  · obtain ⟨m1, m2, m3, m4, m5, m6, -⟩ := nn k k0 k1
    exact ⟨by rw [m6, if_pos rfl], k0, k1⟩
  · obtain ⟨e, he, -⟩ := hxy
    rw [z2] at he
    omega
  · rw [z2]
    constructor
    · intro q; cases q
    · intro q; omega
  · rw [m0_z (by decide)]
    exact (nn k k0 k1).2.2.2.2.2.2.2.2.2 p
  · rw [z17, n65]
    exact rfl
  · rw [z17, n66, if_pos rfl]
def hE : HS := (fun _ => 0, fun _ _ => 0, fun _ _ => none, fun _ => 0, fun _ _ => 0, fun _ _ => none)
theorem repE (cy : CY) : RepH cy hE [] := ⟨fun k a e h => by simp at h, fun a h => absurd rfl h⟩
def L0 (cy : CY) (x : HS × va_W) (ws : va_W) : Prop := ∃ w1 : va_W, (w1 ++ x.2).Perm ws ∧ RepH cy x.1 w1
section NewA
variable {φ : Fx} {k n pc : Nat} {L : List (Nat × Value)} {st : List Value} {cc : ByteArray} {own : String} {cy : CY} {rt : Option FieldType} {R0 : Room}
theorem x_newI {h : HS} {U : va_W} {N : Nat} {z : Int} (C : Cx φ cc own rt cy) (hR0 : ROf φ = R0) (hz : z = N) (hN : N ≤ 100000) (hcell : k + 1 ≤ R0.cells ∧ n + N ≤ R0.slots) (hd : decode cc pc = .ok (.newarray .int, 2)) (kk : ∀ q : Nat, X φ (L0 cy (h, U ++ [(q, .inl (cy.1, N, .inl (fun _ => 0)))])) (k + 1) (n + N) (pc + 2) L (vr (some q) :: st)) : X φ (L0 cy (h, U)) k n pc L (vi z :: st) := by
  obtain ⟨p, l, e, R, s, m, args, below, meth, c, A, nL, D, Q⟩ := φ
  obtain ⟨hx, hb, hr, hml, hown, hts, hlocks, hK, hA, -⟩ := C
  have hR : R = R0 := hR0
  subst hR
  intro H locs ws cells slots ls c1 c2 hI hP hD hS hl
  refine va_newa (atype := .int) (ty := .int) (N' := N) (a0 := (N, .inl (fun _ => 0))) hx hb (hts _ u0_4) rfl hK hP hD hS hA (fun cA => rfl) (nneg hz hN) (nclamp hz hN) (by show N * 4 ≤ _; omega) (by omega) (by omega) hd (fun q cA H1 hK1 hP1 hD1 hS1 => ?_)
  have hc := ca_eq hK1 0 rfl
  subst hc
  obtain ⟨w1, hp, h1⟩ := hI
  refine kk q H1 locs _ _ _ ls (Nat.add_le_add_right c1 1) (Nat.add_le_add_right c2 N) ⟨w1, ?_, h1⟩ hP1 hD1 hS1 hl
  rw [← List.append_assoc]
  exact hp.append_right _
theorem x_newL {h : HS} {U : va_W} {N : Nat} {z : Int} (C : Cx φ cc own rt cy) (hR0 : ROf φ = R0) (hz : z = N) (hN : N ≤ 100000) (hcell : k + 1 ≤ R0.cells ∧ n + N ≤ R0.slots) (hd : decode cc pc = .ok (.newarray .long, 2)) (kk : ∀ q : Nat, X φ (L0 cy (h, U ++ [(q, .inl (cy.2.2.2.2, N, .inr (.inl (fun _ => 0))))])) (k + 1) (n + N) (pc + 2) L (vr (some q) :: st)) : X φ (L0 cy (h, U)) k n pc L (vi z :: st) := by
  obtain ⟨p, l, e, R, s, m, args, below, meth, c, A, nL, D, Q⟩ := φ
  obtain ⟨hx, hb, hr, hml, hown, hts, hlocks, hK, hA, -⟩ := C
  have hR : R = R0 := hR0
  subst hR
  intro H locs ws cells slots ls c1 c2 hI hP hD hS hl
  refine va_newa (atype := .long) (ty := .long) (N' := N) (a0 := (N, .inr (.inl (fun _ => 0)))) hx hb (hts _ u0_3) rfl hK hP hD hS hA (fun cA => rfl) (nneg hz hN) (nclamp hz hN) (by show N * 8 ≤ _; omega) (by omega) (by omega) hd (fun q cA H1 hK1 hP1 hD1 hS1 => ?_)
  have hc := ca_eq hK1 4 rfl
  subst hc
  obtain ⟨w1, hp, h1⟩ := hI
  refine kk q H1 locs _ _ _ ls (Nat.add_le_add_right c1 1) (Nat.add_le_add_right c2 N) ⟨w1, ?_, h1⟩ hP1 hD1 hS1 hl
  rw [← List.append_assoc]
  exact hp.append_right _
end NewA
def V0 : MS := fun _ _ => 0
theorem wsA_0 (cy : CY) (b0 b1 b2 b3 b4 : Nat) : ∃ ba : Nat → Nat, ba 0 = b0 ∧ ba 1 = b1 ∧ ba 2 = b2 ∧ ba 3 = b3 ∧ ba 4 = b4 ∧ wsA cy ba V0 = ((((([] : va_W) ++ [(b0, .inl (cy.2.2.2.2, 50, .inr (.inl (fun _ => 0))))]) ++ [(b1, .inl (cy.1, 15, .inl (fun _ => 0)))]) ++ [(b2, .inl (cy.1, 6, .inl (fun _ => 0)))]) ++ [(b3, .inl (cy.1, 36, .inl (fun _ => 0)))]) ++ [(b4, .inl (cy.1, 6, .inl (fun _ => 0)))] := by
  refine ⟨fun i => match i with | 0 => b0 | 1 => b1 | 2 => b2 | 3 => b3 | _ => b4, rfl, rfl, rfl, rfl, rfl, ?_⟩
  have e1 : (fun _ : Nat => Int64.ofInt 0) = fun _ => (0 : Int64) := by funext i; decide
  have e2 : (fun _ : Nat => Int32.ofInt 0) = fun _ => (0 : Int32) := by funext i; decide
  have e0 : wsA cy (fun i => match i with | 0 => b0 | 1 => b1 | 2 => b2 | 3 => b3 | _ => b4) V0 = ([(b0, .inl (cy.2.2.2.2, 50, .inr (.inl (fun _ : Nat => Int64.ofInt 0)))), (b1, .inl (cy.1, 15, .inl (fun _ : Nat => Int32.ofInt 0))), (b2, .inl (cy.1, 6, .inl (fun _ : Nat => Int32.ofInt 0))), (b3, .inl (cy.1, 36, .inl (fun _ : Nat => Int32.ofInt 0))), (b4, .inl (cy.1, 6, .inl (fun _ : Nat => Int32.ofInt 0)))] : va_W) := rfl
  refine e0.trans ?_
  rw [e1, e2]
  rfl
theorem X.la {φ : Fx} {k n pc : Nat} {L : List (Nat × Value)} {st : List Value} {cy : CY} {ba : Nat → Nat} {h : HS} {U : va_W} (hU : wsA cy ba V0 = U) (kk : X φ (LA cy ba (h, V0)) k n pc L st) : X φ (L0 cy (h, U)) k n pc L st := X.world (fun ws hw => by
  obtain ⟨w1, hp, h1⟩ := hw
  exact ⟨w1, by rw [hU]; exact List.perm_append_comm.trans hp, h1⟩) kk
theorem gi_0 {ob : Nat} {h : HS} (R : RC ob h (grpM M0 0 1 2 2)) : GI ob h V0 (grpM M0 0 1 2 2) := by
  have z : ∀ k, k ≠ 1 → ∀ j, M0 k j = 0 := fun k hk j => m0_z hk j
  have z17 : M0 17 0 = 0 := z 17 (by decide) 0
  have e2 : grpM M0 0 1 2 2 2 = M0 2 := gr_o2
  refine ⟨R, ⟨fun k k0 k1 => ?_, fun d d0 d1 => ?_, fun i i0 i1 => ?_⟩, ⟨fun k k0 k1 => ?_, fun j _ => ?_, ?_⟩, ?_⟩
  · rw [e2, z 2 (by decide)] at k1; omega
  · rw [gr_o11, gr_o12, gr_o13]
    exact ⟨(z 11 (by decide) d).symm, (z 12 (by decide) d).symm, fun a _ _ => (z 13 (by decide) _).symm⟩
  · rw [gr_o14]
    exact ⟨(z 14 (by decide) _).symm, (by decide : (0 : Int) ≤ 6), fun j j0 j1 => absurd j1 (Int.not_lt.mpr j0)⟩
  · rw [e2, z 2 (by decide)] at k1; omega
  · rw [gr_o10]; exact z 10 (by decide) j
  · have g18 := gr_n18 (M := M0) (p := 0) (what := 1) (least := 2) (days := 2)
    have g19 := gr_n19 (M := M0) (p := 0) (what := 1) (least := 2) (days := 2)
    have g20 := gr_n20 (M := M0) (p := 0) (what := 1) (least := 2) (days := 2)
    have g21 := gr_n21 (M := M0) (p := 0) (what := 1) (least := 2) (days := 2)
    rw [z17] at g18 g19 g20 g21
    exact ⟨by rw [gr_17, z17]; rfl, g18, g19, g20, g21⟩
  · rw [e2, z 2 (by decide)]; decide
set_option maxRecDepth 100000 in
set_option maxHeartbeats 1000000 in
theorem law_entry {φ : Fx} {cy : CY} {bs Ls : Nat} {xs : Nat → Int32} (C : Cx φ cL_law RL ret cy) (hQ : LawRet φ) (hR : ROf φ = RLaw) (hn : nLof φ = 19) (hX : SX φ bs Ls xs) (hL : Ls ≤ 260) : X φ (RepH cy hE) 0 0 0 [(0, vr (some bs))] [] := by
  have hst := C.st
  refine h_new6 C hR u0_0 u0_1 u0_2 ⟨(by omega : 0 + 1 ≤ 600074), (by omega : 0 + 12 ≤ 7301550)⟩ dL_law_0 (fun ob hob => ?_)
  refine x_dup C dL_law_3 (vr_cat _) ?_
  refine x_callI C hR cb_X6_init u0_8 rfl u0_7 (k_X6_init (A := (0, 0, 0, 0, 0, 0, fun _ => 0, fun _ => 0, fun _ => 0, fun _ => 0)) (M := M0) hst (h := newO hE 7 ob) (ob := ob) (if_pos rfl) (fun f => if_pos rfl) (fun f => if_pos rfl)) rfl (Nat.le_of_ble_eq_true rfl) rfl dL_law_4 (by decide) ⟨(by omega : 0 + 1 + 45 ≤ 600074), (by omega : 0 + 12 + 1407 ≤ 7301550)⟩ (fun E x9 h9 => by obtain ⟨g, _⟩ := h9; cases g) (fun r9 h1 h9 => ?_)
  obtain ⟨e9, A, rfl, hI⟩ := h9
  cases e9
  have R := ini_rc hI
  refine x_astore_n C dL_law_7 rfl (by rw [hn]; exact Nat.le_of_ble_eq_true rfl) ?_
  refine X.world (I' := L0 cy (h1, [])) (fun ws hw => ⟨ws, by rw [List.append_nil], hw⟩) ?_
  refine x_bipush C dL_law_8 (by decide) ?_
  refine x_newL C hR (N := 50) rfl (by decide) (by decide) dL_law_10 (fun b0 => ?_)
  refine x_astore_n C dL_law_12 rfl (by rw [hn]; exact Nat.le_of_ble_eq_true rfl) ?_
  refine x_bipush C dL_law_13 (by decide) ?_
  refine x_newI C hR (N := 15) rfl (by decide) (by decide) dL_law_15 (fun b1 => ?_)
  refine x_astore_n C dL_law_17 rfl (by rw [hn]; exact Nat.le_of_ble_eq_true rfl) ?_
  refine x_bipush C dL_law_18 (by decide) ?_
  refine x_newI C hR (N := 6) rfl (by decide) (by decide) dL_law_20 (fun b2 => ?_)
  refine x_astore C dL_law_22 (by rw [hn]; exact Nat.le_of_ble_eq_true rfl) ?_
  refine x_bipush C dL_law_24 (by decide) ?_
  refine x_newI C hR (N := 36) rfl (by decide) (by decide) dL_law_26 (fun b3 => ?_)
  refine x_astore C dL_law_28 (by rw [hn]; exact Nat.le_of_ble_eq_true rfl) ?_
  refine x_bipush C dL_law_30 (by decide) ?_
  refine x_newI C hR (N := 6) rfl (by decide) (by decide) dL_law_32 (fun b4 => ?_)
  refine x_astore C dL_law_34 (by rw [hn]; exact Nat.le_of_ble_eq_true rfl) ?_
  obtain ⟨ba, rfl, rfl, rfl, rfl, rfl, hU⟩ := wsA_0 cy b0 b1 b2 b3 b4
  refine X.la hU ?_
  refine x_iconst C dL_law_36 ?_
  refine x_istore C dL_law_37 (by rw [hn]; exact Nat.le_of_ble_eq_true rfl) ?_
  refine x_sipush C dL_law_39 (by decide) ?_
  refine x_istore C dL_law_42 (by rw [hn]; exact Nat.le_of_ble_eq_true rfl) ?_
  refine x_aload_n C dL_law_44 rfl rfl ?_
  refine x_iconst C dL_law_45 ?_
  refine x_iconst C dL_law_46 ?_
  refine x_iconst C dL_law_47 ?_
  refine x_iconst C dL_law_48 ?_
  refine x_callV C hR cb_X6_group cv_X6_group u1_18 (q_group hst R (by rw [m0_z (by decide)]; decide)) (a_recvH R.k (by decide)) ⟨_, _, rfl⟩ rfl (Nat.le_of_ble_eq_true rfl) rfl dL_law_49 (by decide) (by show _ ≤ 600074 ∧ _ ≤ 7301550; omega) (fun E x9 h9 => absurd h9.1 (by intro h; cases h)) (fun r9 x9 h9 => ?_)
  obtain ⟨e9, h9x, rfl, R⟩ := h9
  cases e9
  rw [show M0 17 0 = 0 from m0_z (by decide) 0]
  refine x_if_eq (tgt := 57) C dL_law_52 (by decide) (by first | omega | exact bi_rng _) (fun h52 => ?_) (fun h52 => ?_)
  ·
    refine x_iconst C dL_law_57 ?_
    refine x_istore C dL_law_58 (by rw [hn]; exact Nat.le_of_ble_eq_true rfl) ?_
    exact X.mono (by omega) (by omega) (X.to (law_loop C hQ hR hn hX hL 56 0 h9x V0 _ rfl (gi_0 R) (by rw [gr_o1, m0_1]; decide)) (lsc (rfl) (lsc (rfl) (lsc (rfl) (lsc (rfl) (lsc (rfl) (lsc (rfl) (lsc (rfl) (lsc (lkv (by rw [gr_o2, m0_z (by decide)])) (lsc (lkv (by rw [gr_o1, m0_1])) (lsc (rfl) (lsn))))))))))))
  ·
    exfalso; omega

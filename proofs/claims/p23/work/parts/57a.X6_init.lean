/-! The object's constructor -/
theorem kD_setI (h : HS) (f a : Nat) (z : Int) (x : Nat) : kD (setI h f a z) x = kD h x := rfl
theorem kD_setP (h : HS) (f a : Nat) (z : Option Nat) (x : Nat) : kD (setP h f a z) x = kD h x := rfl
theorem kD_setR (h : HS) (a : Nat) (j : Int) (z : Option Nat) (x : Nat) : kD (setR h a j z) x = kD h x := rfl
theorem kD_newO (h : HS) (kd q x : Nat) : kD (newO h kd q) x = if x = q then kd else kD h x := rfl
theorem kD_newA (h : HS) (kd q n x : Nat) : kD (newA h kd q n) x = if x = q then kd else kD h x := rfl
theorem ln_setI (h : HS) (f a : Nat) (z : Int) (x : Nat) : ln (setI h f a z) x = ln h x := rfl
theorem ln_setP (h : HS) (f a : Nat) (z : Option Nat) (x : Nat) : ln (setP h f a z) x = ln h x := rfl
theorem ln_setR (h : HS) (a : Nat) (j : Int) (z : Option Nat) (x : Nat) : ln (setR h a j z) x = ln h x := rfl
theorem ln_newO (h : HS) (kd q x : Nat) : ln (newO h kd q) x = ln h x := rfl
theorem ln_newA (h : HS) (kd q n x : Nat) : ln (newA h kd q n) x = if x = q then n else ln h x := rfl
theorem fI_setR (h : HS) (a : Nat) (j : Int) (z : Option Nat) (f x : Nat) : fI (setR h a j z) f x = fI h f x := rfl
theorem fP_setR (h : HS) (a : Nat) (j : Int) (z : Option Nat) (f x : Nat) : fP (setR h a j z) f x = fP h f x := rfl
theorem fI_newA (h : HS) (kd q n f x : Nat) : fI (newA h kd q n) f x = fI h f x := rfl
theorem fP_newA (h : HS) (kd q n f x : Nat) : fP (newA h kd q n) f x = fP h f x := rfl
theorem aI_setI (h : HS) (f a : Nat) (z : Int) (x : Nat) (j : Int) : aI (setI h f a z) x j = aI h x j := rfl
theorem aI_setP (h : HS) (f a : Nat) (z : Option Nat) (x : Nat) (j : Int) : aI (setP h f a z) x j = aI h x j := rfl
theorem aI_newO (h : HS) (kd q x : Nat) (j : Int) : aI (newO h kd q) x j = aI h x j := rfl
theorem aI_newA (h : HS) (kd q n x : Nat) (j : Int) : aI (newA h kd q n) x j = if x = q then 0 else aI h x j := rfl
theorem aR_setI (h : HS) (f a : Nat) (z : Int) (x : Nat) (j : Int) : aR (setI h f a z) x j = aR h x j := rfl
theorem aR_setP (h : HS) (f a : Nat) (z : Option Nat) (x : Nat) (j : Int) : aR (setP h f a z) x j = aR h x j := rfl
theorem aR_newO (h : HS) (kd q x : Nat) (j : Int) : aR (newO h kd q) x j = aR h x j := rfl
theorem aR_newA (h : HS) (kd q n x : Nat) (j : Int) : aR (newA h kd q n) x j = if x = q then none else aR h x j := rfl
/-- a node as it is made -/
def Nod (h : HS) (a c : Nat) (k : Int) : Prop := kD h a = 5 ∧ fI h 40 a = k ∧ fP h 41 a = some c ∧ kD h c = 10 ∧ ln h c = 4 ∧ fP h 42 a = none ∧ fI h 43 a = 0 ∧ fI h 44 a = 0 ∧ fI h 45 a = 0 ∧ ∀ p, aR h c p = none
theorem Nod.ex {h h' : HS} {a c : Nat} {k : Int} (e : Ex h h') (n : Nod h a c k) : Nod h' a c k := by
  obtain ⟨n1, n2, n3, n4, n5, n6, n7, n8, n9, n10⟩ := n
  obtain ⟨a1, a2, a3, a4, a5, a6⟩ := e a (by omega)
  obtain ⟨b1, b2, b3, b4, b5, b6⟩ := e c (by omega)
  exact ⟨by rw [a1]; exact n1, by rw [a3]; exact n2, by rw [a4]; exact n3, by rw [b1]; exact n4, by rw [b2]; exact n5, by rw [a4]; exact n6, by rw [a3]; exact n7, by rw [a3]; exact n8, by rw [a3]; exact n9, fun p => by rw [b6]; exact n10 p⟩
/-- the object while its nodes are made -/
def Ini (h : HS) (ob cn : Nat) (nf lf : Int → Nat) (i : Nat) : Prop := kD h ob = 7 ∧ fP h 60 ob = some cn ∧ kD h cn = 11 ∧ ln h cn = 20 ∧ (∀ f, fI h f ob = 0) ∧ (∀ f, f ≠ 60 → fP h f ob = none) ∧ (∀ k : Int, 0 ≤ k → k < i → aR h cn k = some (nf k) ∧ Nod h (nf k) (lf k) k) ∧ ∀ k j : Int, 0 ≤ k → k < i → 0 ≤ j → j < i → lf k = lf j → k = j
theorem Ini.step {h : HS} {ob cn q c : Nat} {nf lf : Int → Nat} {i : Nat} (n : Ini h ob cn nf lf i) (hq : kD h q = 0) (hc : kD (newO h 5 q) c = 0) : Ini (setR (setP (newA (setI (newO h 5 q) 40 q i) 10 c 4) 41 q (some c)) cn i (some q)) ob cn (fun k => if k = i then q else nf k) (fun k => if k = i then c else lf k) (i + 1) := by
  obtain ⟨n1, n2, n3, n4, n5, n6, n7, n8⟩ := n
  have hcq : ¬ c = q ∧ kD h c = 0 := by
    rw [kD_newO] at hc
    split at hc
    · cases hc
    · rename_i g; exact ⟨g, hc⟩
  have e1 : Ex h (setP (newA (setI (newO h 5 q) 40 q i) 10 c 4) 41 q (some c)) := (((Ex.newO (kd := 5) hq).sI (f := 40) (z := (i : Int)) hq).tr (Ex.newA (kd := 10) (n := 4) hc)).sP hq
  have o1 := e1 ob (by omega)
  have c1 := e1 cn (by omega)
  refine ⟨o1.1.trans n1, (o1.2.2.2.1 60).trans n2, c1.1.trans n3, c1.2.1.trans n4, fun f => (o1.2.2.1 f).trans (n5 f), fun f hf => (o1.2.2.2.1 f).trans (n6 f hf), fun k k0 k1 => ?_, fun k j k0 k1 j0 j1 hkj => ?_⟩
  · by_cases hk : k = i
    · subst hk
      dsimp only
      rw [if_pos rfl, if_pos rfl]
      have hcn : ¬ c = cn := fun e => by rw [e] at hcq; omega
      have hqn : ¬ q = cn := fun e => by rw [e] at hq; omega
      have hqc : ¬ q = c := fun e => hcq.1 e.symm
      refine ⟨by rw [aR_setR, if_pos ⟨rfl, rfl⟩], ?_⟩
      simp [Nod, kD_setR, kD_setP, kD_setI, kD_newO, kD_newA, ln_setR, ln_setP, ln_setI, ln_newO, ln_newA, fI_setR, fI_setP, fI_setI, fI_newA, fI_newO, fP_setR, fP_setP, fP_newA, fP_setI, fP_newO, aR_setR, aR_setP, aR_newA, hqc, hcn]
    · obtain ⟨g1, g2⟩ := n7 k k0 (by omega)
      dsimp only
      rw [if_neg hk, if_neg hk]
      refine ⟨?_, ?_⟩
      · rw [aR_setR, if_neg (fun q => hk q.2), c1.2.2.2.2.2]
        exact g1
      · have g3 := g2.ex e1
        obtain ⟨m1, m2, m3, m4, m5, m6, m7, m8, m9, m10⟩ := g3
        have hne : ¬ lf k = cn := fun e => by rw [e, c1.1, n3] at m4; cases m4
        exact ⟨m1, m2, m3, m4, m5, m6, m7, m8, m9, fun p => by rw [aR_setR, if_neg (fun q => hne q.1)]; exact m10 p⟩
  · have old : ∀ k : Int, 0 ≤ k → k < ((i + 1 : Nat) : Int) → ¬ k = i → ¬ c = lf k := fun k k0 k1 hk e => by
      have := (n7 k k0 (by omega)).2.2.2.2.1
      rw [← e] at this
      omega
    by_cases hk : k = i <;> by_cases hj : j = i
    · omega
    · simp only [if_pos hk, if_neg hj] at hkj
      exact absurd hkj (old j j0 j1 hj)
    · simp only [if_neg hk, if_pos hj] at hkj
      exact absurd hkj.symm (old k k0 k1 hk)
    · simp only [if_neg hk, if_neg hj] at hkj
      exact n8 k j k0 (by omega) j0 (by omega) hkj
/-- the object as it is made -/
def INI (h : HS) (A : AD) : Prop := VO h A ∧ (∀ k, 0 ≤ k → k < 20 → Nod h (nd A k) (lc A k) k) ∧ LcI A ∧ (fP h 20 (cH A) = none ∧ fP h 21 (cH A) = none) ∧ (∀ j, aI h (cM A) j = 0) ∧ (fI h 67 (cO A) = 0 ∧ fI h 68 (cO A) = 0 ∧ fI h 69 (cO A) = 0 ∧ fI h 70 (cO A) = 0 ∧ fI h 71 (cO A) = 1440) ∧ fP h 65 (cO A) = none ∧ fP h 66 (cO A) = none
theorem INI.mk {h : HS} {ob cn q1 q2 q3 q4 : Nat} {nf lf : Int → Nat} (n : Ini h ob cn nf lf 20) (h1 : kD h q1 = 0) (h2 : kD (newA h 9 q1 1000) q2 = 0) (h3 : kD (newO (newA h 9 q1 1000) 3 q2) q3 = 0) (h4 : kD (newO (newO (newA h 9 q1 1000) 3 q2) 6 q3) q4 = 0) : INI (setI (setP (newA (setP (newO (setP (newO (setP (newA h 9 q1 1000) 61 ob (some q1)) 3 q2) 62 ob (some q2)) 6 q3) 63 ob (some q3)) 8 q4 160) 64 ob (some q4)) 71 ob 1440) (ob, cn, q1, q2, q3, q4, nf, lf, fun _ => 0, fun _ => 0) := by
  obtain ⟨n1, n2, n3, n4, n5, n6, n7, n8⟩ := n
  simp only [kD_newA, kD_newO] at h2 h3 h4
  have g2 : ¬ q2 = q1 ∧ kD h q2 = 0 := by
    split at h2
    · cases h2
    · rename_i g; exact ⟨g, h2⟩
  have g3 : ¬ q3 = q2 ∧ ¬ q3 = q1 ∧ kD h q3 = 0 := by
    split at h3
    · cases h3
    · rename_i g
      split at h3
      · cases h3
      · rename_i g'; exact ⟨g, g', h3⟩
  have g4 : ¬ q4 = q3 ∧ ¬ q4 = q2 ∧ ¬ q4 = q1 ∧ kD h q4 = 0 := by
    split at h4
    · cases h4
    · rename_i g
      split at h4
      · cases h4
      · rename_i g'
        split at h4
        · cases h4
        · rename_i g''; exact ⟨g, g', g'', h4⟩
  have ne : ∀ a, kD h a ≠ 0 → ¬ a = q1 ∧ ¬ a = q2 ∧ ¬ a = q3 ∧ ¬ a = q4 := fun a ha => ⟨fun e => ha (by rw [e]; exact h1), fun e => ha (by rw [e]; exact g2.2), fun e => ha (by rw [e]; exact g3.2.2), fun e => ha (by rw [e]; exact g4.2.2.2)⟩
  obtain ⟨o1, o2, o3, o4⟩ := ne ob (by omega)
  obtain ⟨c1, c2, c3, c4⟩ := ne cn (by omega)
  have p1 : ¬ q1 = ob := fun e => o1 e.symm
  have p2 : ¬ q2 = ob := fun e => o2 e.symm
  have p3 : ¬ q3 = ob := fun e => o3 e.symm
  have p4 : ¬ q4 = ob := fun e => o4 e.symm
  have r12 : ¬ q1 = q2 := fun e => g2.1 e.symm
  have r13 : ¬ q1 = q3 := fun e => g3.2.1 e.symm
  have r14 : ¬ q1 = q4 := fun e => g4.2.2.1 e.symm
  have r23 : ¬ q2 = q3 := fun e => g3.1 e.symm
  have r24 : ¬ q2 = q4 := fun e => g4.2.1 e.symm
  have r34 : ¬ q3 = q4 := fun e => g4.1 e.symm
  refine ⟨⟨?_, ?_, ?_, ?_, ?_, ?_, ?_, ?_, fun k k0 k1 => ?_, ?_, ?_, ?_, ?_, ?_, ?_⟩, fun k k0 k1 => ?_, fun k j k0 k1 j0 j1 e => n8 k j k0 (by omega) j0 (by omega) e, ?_, fun j => ?_, ?_, ?_, ?_⟩
  case refine_9 =>
    show aR _ cn k = some (nf k)
    simp only [aR_setI, aR_setP, aR_newA, aR_newO, if_neg c4, if_neg c1]
    exact (n7 k k0 (by omega)).1
  case refine_16 =>
    obtain ⟨m1, m2, m3, m4, m5, m6, m7, m8, m9, m10⟩ := (n7 k k0 (by omega)).2
    obtain ⟨a1, a2, a3, a4⟩ := ne (nf k) (by omega)
    obtain ⟨b1, b2, b3, b4⟩ := ne (lf k) (by omega)
    have hno : ¬ nf k = ob := fun e => by rw [e, n1] at m1; cases m1
    show Nod _ (nf k) (lf k) k
    simp [Nod, kD_setP, kD_setI, kD_newO, kD_newA, ln_setP, ln_setI, ln_newO, ln_newA, fI_setP, fI_setI, fI_newA, fI_newO, fP_setP, fP_newA, fP_setI, fP_newO, aR_setI, aR_setP, aR_newA, aR_newO, a1, a2, a3, a4, b1, b2, b3, b4, hno, m1, m2, m3, m4, m5, m6, m7, m8, m9, m10]
  all_goals simp [cO, cN, cM, cH, cT, cW, kD_setP, kD_setI, kD_newO, kD_newA, ln_setP, ln_setI, ln_newO, ln_newA, fI_setP, fI_setI, fI_newA, fI_newO, fP_setP, fP_newA, fP_setI, fP_newO, aI_setI, aI_setP, aI_newA, aI_newO, n1, n2, n3, n4, n5, n6, o1, o2, o3, o4, c1, c2, c3, c4, p1, p2, p3, p4, r12, r13, r14, r23, r24, r34, g2.1, g3.1, g3.2.1, g4.1, g4.2.1, g4.2.2.1]

set_option maxRecDepth 100000 in
set_option maxHeartbeats 400000 in
theorem k_X6_init {l : Launch} {D : va_G} {cy : CY} (hst : l.stackTraces = false) {h : HS} {A : AD} {M : MS} {ob : Nat} (ha : kD h ob = 7) (hz : ∀ f, fI h f ob = 0) (hzp : ∀ f, fP h f ob = none) : Ct l D cy yX6_init (Cond.code yX6_init cX6_init 2 none) 2 42 45 1407 (RepH cy) [vr (some ob)] h (fun r h' => r = .ok none ∧ ∃ A, cO A = ob ∧ INI h' A) := by
  refine Ct.of1I (own := RX6) hst (by decide) rfl rfl (Nat.le_of_ble_eq_true rfl) (cat1 (vr_cat _) (cat0)) ?_
  intro φ C hQ hn hR hl hD hin
  subst hl hD
  have loop : ∀ (n i : Nat) (h1 : HS) (cn : Nat) (nl : (Int → Nat) × (Int → Nat)), i + n = 20 → Ini h1 ob cn nl.1 nl.2 i → X φ (RepH cy h1) (1 + 2 * i) (20 + 11 * i) 15 [(0, vr (some ob)), (1, vi (i : Int))] [] := by
    intro n
    induction n with
    | zero =>
      intro i h1 cn nl hin9 hI
      obtain ⟨nf, lf⟩ := nl
      obtain rfl : i = 20 := by omega
      obtain ⟨n1, n2, n3, n4, n5, n6, n7, n8⟩ := id hI
      refine x_iload_n C dX6_init_15 rfl rfl ?_
      refine x_aload_n C dX6_init_16 rfl rfl ?_
      refine h_get6 (f := 0) C n1 (by decide) u0_14 rfl rfl dX6_init_17 ?_
      simp only [n2]
      refine h_alen C (by omega) dX6_init_20 ?_
      simp only [n4]
      refine x_icmp_ge (tgt := 44) C dX6_init_21 (by decide) (by omega) (by omega) (fun h21 => ?_) (fun h21 => ?_)
      ·
        refine x_aload_n C dX6_init_44 rfl rfl ?_
        refine x_sipush C dX6_init_45 (by decide) ?_
        refine h_newaZ C hR rfl (by decide) (by decide) dX6_init_48 (fun q48 hq48 => ?_)
        have o2 := (Ex.newA (kd := 9) (n := 1000) hq48 ob (by omega)).1.trans n1
        refine h_put6F (f := 1) (h' := setP _ 61 _ _) C hin rfl o2 (by decide) u0_18 rfl rfl (tyX6_ok 1 (by decide)) (fit_va _) (cs6_1 o2) (fun _ => rfl) (fun _ hx => cell_setP_ne hx) dX6_init_50 ?_
        refine x_aload_n C dX6_init_53 rfl rfl ?_
        refine h_new2 C hR u0_19 u0_20 u0_21 (by decide) dX6_init_54 (fun q54 hq54 => ?_)
        have o3 := (Ex.newO (kd := 3) hq54 ob (fun e => absurd (o2.symm.trans e) (by decide))).1.trans o2
        refine x_dup C dX6_init_57 (by first | rfl | exact vr_cat _ | exact vi_cat _) ?_
        refine x_callIN C hR cb_X2_init u1_12 rfl (List.mem_of_getElem? (i := 0) rfl) (k_X2_init (A := A) (M := M) (a := q54) hst) rfl (Nat.le_of_ble_eq_true rfl) rfl dX6_init_58 (by decide) (by decide) (fun E x9 h9 => absurd h9 (by first | (intro h; cases h.1) | (rintro ⟨_, h, _⟩; cases h) | (rintro ⟨_, _, h, _⟩; cases h))) (fun r9 x9 h9 => ?_)
        obtain ⟨e9, q9⟩ := h9
        cases e9
        subst x9
        refine h_put6F (f := 2) (h' := setP _ 62 _ _) C hin rfl o3 (by decide) u0_22 rfl rfl (tyX6_ok 2 (by decide)) (fit_vr _) (cs6_2 o3) (fun _ => rfl) (fun _ hx => cell_setP_ne hx) dX6_init_61 ?_
        refine x_aload_n C dX6_init_64 rfl rfl ?_
        refine h_new5 C hR u0_23 u1_0 u1_1 (by decide) dX6_init_65 (fun q65 hq65 => ?_)
        have o4 := (Ex.newO (kd := 6) hq65 ob (fun e => absurd (o3.symm.trans e) (by decide))).1.trans o3
        refine x_dup C dX6_init_68 (by first | rfl | exact vr_cat _ | exact vi_cat _) ?_
        refine x_callIN C hR cb_X5_init u1_15 rfl (List.mem_of_getElem? (i := 1) rfl) (k_X5_init (A := A) (M := M) (a := q65) hst) rfl (Nat.le_of_ble_eq_true rfl) rfl dX6_init_69 (by decide) (by decide) (fun E x9 h9 => absurd h9 (by first | (intro h; cases h.1) | (rintro ⟨_, h, _⟩; cases h) | (rintro ⟨_, _, h, _⟩; cases h))) (fun r9 x9 h9 => ?_)
        obtain ⟨e9, q9⟩ := h9
        cases e9
        subst x9
        refine h_put6F (f := 3) (h' := setP _ 63 _ _) C hin rfl o4 (by decide) u1_2 rfl rfl (tyX6_ok 3 (by decide)) (fit_vr _) (cs6_3 o4) (fun _ => rfl) (fun _ hx => cell_setP_ne hx) dX6_init_72 ?_
        refine x_aload_n C dX6_init_75 rfl rfl ?_
        refine x_sipush C dX6_init_76 (by decide) ?_
        refine h_newaI C hR rfl (by decide) (by decide) dX6_init_79 (fun q79 hq79 => ?_)
        have o5 := (Ex.newA (kd := 8) (n := 160) hq79 ob (fun e => absurd (o4.symm.trans e) (by decide))).1.trans o4
        refine h_put6F (f := 4) (h' := setP _ 64 _ _) C hin rfl o5 (by decide) u1_3 rfl rfl (tyX6_ok 4 (by decide)) (fit_va _) (cs6_4 o5) (fun _ => rfl) (fun _ hx => cell_setP_ne hx) dX6_init_81 ?_
        refine x_aload_n C dX6_init_84 rfl rfl ?_
        refine x_sipush C dX6_init_85 (by decide) ?_
        refine h_put6 (f := 11) (h' := setI _ 71 _ _) C o5 (by decide) u1_4 rfl rfl (tyX6_ok 11 (by decide)) (fit_vi _) (cs6_11 o5) (fun _ => rfl) (fun _ hx => cell_setI_ne hx) dX6_init_88 ?_
        refine x_vret C hQ dX6_init_91 rfl (by decide) (by decide) ?_
        exact ⟨rfl, _, rfl, INI.mk hI hq48 hq54 hq65 hq79⟩
      ·
        exfalso; omega
    | succ n ih =>
      intro i h1 cn nl hin9 hI
      obtain ⟨nf, lf⟩ := nl
      obtain ⟨n1, n2, n3, n4, n5, n6, n7, n8⟩ := id hI
      refine x_iload_n C dX6_init_15 rfl rfl ?_
      refine x_aload_n C dX6_init_16 rfl rfl ?_
      refine h_get6 (f := 0) C n1 (by decide) u0_14 rfl rfl dX6_init_17 ?_
      simp only [n2]
      refine h_alen C (by omega) dX6_init_20 ?_
      simp only [n4]
      refine x_icmp_ge (tgt := 44) C dX6_init_21 (by decide) (by omega) (by omega) (fun h21 => ?_) (fun h21 => ?_)
      ·
        exfalso; omega
      ·
        refine x_aload_n C dX6_init_24 rfl rfl ?_
        refine h_get6 (f := 0) C n1 (by decide) u0_14 rfl rfl dX6_init_25 ?_
        simp only [n2]
        refine x_iload_n C dX6_init_28 rfl rfl ?_
        refine h_new4 C hR u0_13 u0_15 u0_16 ⟨by show _ ≤ 45; omega, by show _ ≤ 1407; omega⟩ dX6_init_29 (fun q29 hq29 => ?_)
        refine x_dup C dX6_init_32 (by first | rfl | exact vr_cat _ | exact vi_cat _) ?_
        refine x_iload_n C dX6_init_33 rfl rfl ?_
        refine x_callI C hR cb_X4_init u1_6 rfl u1_5 (k_X4_init (A := A) (M := M) hst (h := newO h1 5 q29) (a := q29) (if_pos rfl)) rfl (Nat.le_of_ble_eq_true rfl) rfl dX6_init_34 (by decide) ⟨by show _ ≤ 45; omega, by show _ ≤ 1407; omega⟩ (fun E x9 h9 => absurd h9 (by first | (intro h; cases h.1) | (rintro ⟨_, h, _⟩; cases h) | (rintro ⟨_, _, h, _⟩; cases h))) (fun r9 x9 h9 => ?_)
        obtain ⟨e9, c, hc9, q9⟩ := h9
        cases e9
        have hI9 := hI.step hq29 hc9
        rw [← q9] at hI9
        have e1 : Ex h1 x9 := by
          rw [q9]
          exact (((Ex.newO (kd := 5) hq29).sI (f := 40) (z := (i : Int)) hq29).tr (Ex.newA (kd := 10) (n := 4) hc9)).sP hq29
        have kcn := (e1 cn (by omega)).1.trans n3
        have lcn := (e1 cn (by omega)).2.1.trans n4
        have kq9 : kD x9 q29 = 5 := by
          have hne : ¬ q29 = c := fun e => by rw [kD_newO, if_pos e.symm] at hc9; cases hc9
          rw [q9, kD_setP, kD_newA, if_neg hne]
          exact if_pos rfl
        refine h_aastN C kcn (by rw [lcn]; omega) (by rw [lcn]; omega) (fun v hv => by cases hv; exact kq9) dX6_init_37 ?_
        refine x_iinc C dX6_init_38 (by rw [hn]; exact Nat.le_of_ble_eq_true rfl) rfl ?_
        refine x_goto (tgt := 15) C dX6_init_41 (by decide) ?_
        exact X.mono (by omega) (by omega) (X.to (ih (i + 1) _ cn (_, _) (by omega) hI9) (lsc rfl (lsc (lkv (by omega)) lsn)))
  refine x_aload_n C dX6_init_0 rfl rfl ?_
  refine x_objInit C hR u0_10 u0_11 u0_12 dX6_init_1 (by decide) (Nat.le_of_ble_eq_true rfl) ?_
  refine x_aload_n C dX6_init_4 rfl rfl ?_
  refine x_bipush C dX6_init_5 (by decide) ?_
  refine h_newaN C hR u0_13 rfl (by decide) (by decide) dX6_init_7 (fun q7 hq7 => ?_)
  have o1 := (Ex.newA (kd := 11) (n := 20) hq7 ob (by omega)).1.trans ha
  have qo : ¬ ob = q7 := fun e => by rw [e, hq7] at ha; cases ha
  refine h_put6F (f := 0) (h' := setP _ 60 _ _) C hin rfl o1 (by decide) u0_14 rfl rfl (tyX6_ok 0 (by decide)) (fit_va _) (cs6_0 o1) (fun _ => rfl) (fun _ hx => cell_setP_ne hx) dX6_init_10 ?_
  refine x_iconst C dX6_init_13 ?_
  refine x_istore_n C dX6_init_14 rfl (by rw [hn]; exact Nat.le_of_ble_eq_true rfl) ?_
  exact X.to (loop 20 0 _ q7 (fun _ => 0, fun _ => 0) rfl ⟨o1, fP_set_eq, if_pos rfl, if_pos rfl, fun f => hz f, fun f hf => by rw [fP_setP, if_neg (fun q => hf q.1)]; exact hzp f, fun k k0 k1 => by omega, fun k j k0 k1 => by omega⟩) (lsc rfl (lsc rfl (lsn)))

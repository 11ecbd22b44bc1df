/-! Worlds in any order; the law's five arrays beside the object's heap -/
section Perms
variable {D : va_G} {cl : List vw_C} {H : Heap} {A : Nat → Prop} {w ws : va_W}
theorem pm_mem (h : w.Perm ws) {k : Nat} {q : Nat × va_E} (hk : w[k]? = some q) : ∃ j : Nat, ws[j]? = some q := List.getElem?_of_mem (h.mem_iff.mp (List.mem_of_getElem? hk))
theorem pm_P (h : w.Perm ws) (hP : va_P D cl ws H) : va_P D cl w H := fun k q hk => by
  obtain ⟨j, hj⟩ := pm_mem h hk
  exact hP j q hj
theorem D_nodup (hD : va_D A ws) : (ws.map Prod.fst).Nodup := by
  refine List.pairwise_iff_getElem.mpr (fun i j hi hj hij e => ?_)
  rw [List.length_map] at hi hj
  rw [List.getElem_map, List.getElem_map] at e
  have := hD.1 i j ws[i] ws[j] (List.getElem?_eq_getElem hi) (List.getElem?_eq_getElem hj) e
  omega
theorem nodup_D (hN : (ws.map Prod.fst).Nodup) (hA : ∀ (k : Nat) (q : Nat × va_E), ws[k]? = some q → A q.1) : va_D A ws := by
  have h1 := List.pairwise_iff_getElem.mp hN
  have key : ∀ (i j : Nat) (p q : Nat × va_E), ws[i]? = some p → ws[j]? = some q → p.1 = q.1 → ¬ i < j := fun i j p q hi hj e hij => by
    obtain ⟨i1, rfl⟩ := List.getElem?_eq_some_iff.mp hi
    obtain ⟨j1, rfl⟩ := List.getElem?_eq_some_iff.mp hj
    refine h1 i j (by rw [List.length_map]; exact i1) (by rw [List.length_map]; exact j1) hij ?_
    rw [List.getElem_map, List.getElem_map]
    exact e
  refine ⟨fun i j p q hi hj e => ?_, hA⟩
  have k1 := key i j p q hi hj e
  have k2 := key j i q p hj hi e.symm
  omega
theorem pm_D (h : w.Perm ws) (hD : va_D A ws) : va_D A w := nodup_D ((h.map Prod.fst).nodup_iff.mpr (D_nodup hD)) (fun k q hk => by
  obtain ⟨j, hj⟩ := pm_mem h hk
  exact hD.2 j q hj)
theorem pm_A (h : w.Perm ws) {sz q : Nat} (hq : va_A w sz q) : va_A ws sz q := by
  rcases hq with ⟨k, e, hk⟩ | hq
  · obtain ⟨j, hj⟩ := pm_mem h hk
    exact Or.inl ⟨j, e, hj⟩
  · exact Or.inr hq
end Perms
theorem Ct.perm {l : Launch} {D : va_G} {cy : CY} {y : MethodName} {w0 : Cond} {fr lo mc ms : Nat} {σ : Type} {I : σ → va_W → Prop} {as : List Value} {x : σ} {Post : Except String (Option Value) → σ → Prop} (h : Ct l D cy y w0 fr lo mc ms I as x Post) : Ct l D cy y w0 fr lo mc ms (fun x ws => ∃ wz : va_W, wz.Perm ws ∧ I x wz) as x Post := by
  rintro sz ws ⟨w1, hp, hI⟩
  refine vx_conseq2 (h sz w1 hI) ?_ ?_ ?_ (fun q hq => pm_A hp hq)
  · rintro a s ⟨q0, q1, qP, qK, qD, qE⟩
    exact ⟨q0, q1, pm_P hp qP, qK, pm_D hp qD, qE.1.narrow (fun q hq => pm_A hp hq), qE.2.1.narrow (fun q hq => pm_A hp hq), qE.2.2⟩
  · rintro a s o t - ⟨r, x', ws', e1, e2, e3, e4, e5, e6⟩
    exact ⟨r, x', ws', e1, e2, ⟨ws', List.Perm.refl _, e3⟩, e4, e5.weaken (fun k q _ hq => pm_A hp hq), ⟨e6.1, fun q h1 h2 => e6.2 q h1 (fun hq => h2 (pm_A hp hq))⟩⟩
  · rintro a s E t - ⟨x', ws', e2, e3, e4, e5, e6⟩
    exact ⟨x', ws', e2, ⟨ws', List.Perm.refl _, e3⟩, e4, e5.weaken (fun k q _ hq => pm_A hp hq), ⟨e6.1, fun q h1 h2 => e6.2 q h1 (fun hq => h2 (pm_A hp hq))⟩⟩

def vl (z : Int) : Value := .long (Int64.ofInt z)
theorem vl_cat (z : Int) : (vl z).category = 2 := rfl
abbrev L2S : Type := HS × MS
def wsA (cy : CY) (ba : Nat → Nat) (V : MS) : va_W := [(ba 0, .inl (cy.2.2.2.2, 50, .inr (.inl (fun i : Nat => Int64.ofInt (V 0 i))))), (ba 1, .inl (cy.1, 15, .inl (fun i : Nat => Int32.ofInt (V 1 i)))), (ba 2, .inl (cy.1, 6, .inl (fun i : Nat => Int32.ofInt (V 2 i)))), (ba 3, .inl (cy.1, 36, .inl (fun i : Nat => Int32.ofInt (V 3 i)))), (ba 4, .inl (cy.1, 6, .inl (fun i : Nat => Int32.ofInt (V 4 i))))]
def LA (cy : CY) (ba : Nat → Nat) (x : L2S) (ws : va_W) : Prop := ∃ w1 : va_W, (wsA cy ba x.2 ++ w1).Perm ws ∧ RepH cy x.1 w1
theorem pm_set {l w1 ws : va_W} {q0 : Nat} {c : Nat × va_E} (hp : (l ++ w1).Perm ws) (hc : l[q0]? = some c) : ∃ j : Nat, ws[j]? = some c ∧ ∀ c' : Nat × va_E, (l.set q0 c' ++ w1).Perm (ws.set j c') := by
  have hm : c ∈ ws := hp.mem_iff.mp (List.mem_append_left _ (List.mem_of_getElem? hc))
  obtain ⟨s1, s2, rfl⟩ := List.append_of_mem hm
  obtain ⟨hlt, hget⟩ := List.getElem?_eq_some_iff.mp hc
  refine ⟨s1.length, by rw [List.getElem?_append_right (Nat.le_refl _), Nat.sub_self]; rfl, fun c' => ?_⟩
  have hs : (s1 ++ c :: s2).set s1.length c' = s1 ++ c' :: s2 := by
    rw [List.set_append_right _ _ (Nat.le_refl _), Nat.sub_self]
    rfl
  have hl : ∀ c1, l.set q0 c1 = l.take q0 ++ c1 :: l.drop (q0 + 1) := fun c1 => by
    rw [List.set_eq_take_append_cons_drop, if_pos hlt]
  have h0 : l = l.take q0 ++ c :: l.drop (q0 + 1) := by
    rw [← hl c, ← hget, List.set_getElem_self]
  rw [h0, List.append_assoc, List.cons_append] at hp
  have e3 := ((List.perm_middle.symm.trans hp).trans List.perm_middle).cons_inv
  rw [hs, hl c', List.append_assoc, List.cons_append]
  exact List.perm_middle.trans ((e3.cons _).trans List.perm_middle.symm)
theorem wsA_st0 (cy : CY) (ba : Nat → Nat) (V : MS) {j : Int} (hj : 0 ≤ j) (z : Int) : (wsA cy ba V).set 0 (ba 0, .inl (cy.2.2.2.2, 50, .inr (.inl (vp_updL (fun i : Nat => Int64.ofInt (V 0 i)) j.toNat (Int64.ofInt z))))) = wsA cy ba (mset V 0 j z) := by
  have e : vp_updL (fun i : Nat => Int64.ofInt (V 0 i)) j.toNat (Int64.ofInt z) = fun i : Nat => Int64.ofInt (mset V 0 j z 0 i) := by
    funext i
    rw [mset_at]
    by_cases h : i = j.toNat
    · subst h
      rw [pk_uLs, if_pos (Int.toNat_of_nonneg hj)]
    · rw [pk_uLn h, if_neg (fun e => h (by omega))]
  rw [e]
  simp [wsA, mset]
theorem wsA_st1 (cy : CY) (ba : Nat → Nat) (V : MS) {j : Int} (hj : 0 ≤ j) (z : Int) : (wsA cy ba V).set 1 (ba 1, .inl (cy.1, 15, .inl (upd (fun i : Nat => Int32.ofInt (V 1 i)) j.toNat (Int32.ofInt z)))) = wsA cy ba (mset V 1 j z) := by
  rw [mset_row_eq V 1 hj z]
  simp [wsA, mset]
theorem wsA_st2 (cy : CY) (ba : Nat → Nat) (V : MS) {j : Int} (hj : 0 ≤ j) (z : Int) : (wsA cy ba V).set 2 (ba 2, .inl (cy.1, 6, .inl (upd (fun i : Nat => Int32.ofInt (V 2 i)) j.toNat (Int32.ofInt z)))) = wsA cy ba (mset V 2 j z) := by
  rw [mset_row_eq V 2 hj z]
  simp [wsA, mset]
theorem wsA_st3 (cy : CY) (ba : Nat → Nat) (V : MS) {j : Int} (hj : 0 ≤ j) (z : Int) : (wsA cy ba V).set 3 (ba 3, .inl (cy.1, 36, .inl (upd (fun i : Nat => Int32.ofInt (V 3 i)) j.toNat (Int32.ofInt z)))) = wsA cy ba (mset V 3 j z) := by
  rw [mset_row_eq V 3 hj z]
  simp [wsA, mset]
theorem wsA_st4 (cy : CY) (ba : Nat → Nat) (V : MS) {j : Int} (hj : 0 ≤ j) (z : Int) : (wsA cy ba V).set 4 (ba 4, .inl (cy.1, 6, .inl (upd (fun i : Nat => Int32.ofInt (V 4 i)) j.toNat (Int32.ofInt z)))) = wsA cy ba (mset V 4 j z) := by
  rw [mset_row_eq V 4 hj z]
  simp [wsA, mset]
section LARows
variable {φ : Fx} {k n pc : Nat} {L : List (Nat × Value)} {st : List Value} {cc : ByteArray} {own : String} {ret : Option FieldType} {cy : CY} {ba : Nat → Nat} {h : HS} {V : MS}
theorem a_recvH {a ci : Nat} (hk : kD h a = ci + 1) (hc : ci < 7) : ∀ ws, LA cy ba (h, V) ws → ∃ (q0 : Nat) (fs : List Value), ws[q0]? = some (a, Sum.inr (ci, fs)) := fun ws ⟨w1, hp, h1⟩ => by
  obtain ⟨q0, fs, hq⟩ := h_recv hk hc w1 h1
  obtain ⟨j, hj⟩ := List.getElem?_of_mem (hp.mem_iff.mp (List.mem_append_right _ (List.mem_of_getElem? hq)))
  exact ⟨j, fs, hj⟩
theorem a_iald {f N : Nat} {j : Int} (C : Cx φ cc own ret cy) (hq : (wsA cy ba V)[f]? = some (ba f, .inl (cy.1, N, .inl (fun i : Nat => Int32.ofInt (V f i))))) (hN : N ≤ 2147483647) (hj : 0 ≤ j ∧ j < N) (hd : decode cc pc = .ok (.iaload, 1)) (kk : X φ (LA cy ba (h, V)) k n (pc + 1) L (vi (V f j) :: st)) : X φ (LA cy ba (h, V)) k n pc L (vi j :: vr (some (ba f)) :: st) := by
  obtain ⟨p, l, e, R, s, m, args, below, meth, c, A, nL, D, Q⟩ := φ
  obtain ⟨hx, hb, hr, hml, hown, hts, hlocks, hK, -⟩ := C
  intro H locs ws cells slots ls c1 c2 hI hP hD hS hl
  obtain ⟨w1, hp, h1⟩ := id hI
  obtain ⟨j0, hj0, -⟩ := pm_set (w1 := w1) hp hq
  have hc := i32_clamp (a := j) hj.1 (by omega)
  refine va_iald hx hb hK hP j0 0 hj0 rfl (vp_in_iff.mpr (by rw [Int32.toInt_ofInt_of_le (by omega) (by omega)]; exact hj)) hd ?_
  rw [hc, show ((j.toNat : Nat) : Int) = j from Int.toNat_of_nonneg hj.1]
  exact kk H locs ws cells slots ls c1 c2 hI hP hD hS hl
theorem a_lald {j : Int} (C : Cx φ cc own ret cy) (hj : 0 ≤ j ∧ j < 50) (hd : decode cc pc = .ok (.laload, 1)) (kk : X φ (LA cy ba (h, V)) k n (pc + 1) L (vl (V 0 j) :: st)) : X φ (LA cy ba (h, V)) k n pc L (vi j :: vr (some (ba 0)) :: st) := by
  obtain ⟨p, l, e, R, s, m, args, below, meth, c, A, nL, D, Q⟩ := φ
  obtain ⟨hx, hb, hr, hml, hown, hts, hlocks, hK, -⟩ := C
  intro H locs ws cells slots ls c1 c2 hI hP hD hS hl
  obtain ⟨w1, hp, h1⟩ := id hI
  obtain ⟨j0, hj0, -⟩ := pm_set (q0 := 0) (w1 := w1) hp rfl
  have hc := i32_clamp (a := j) hj.1 (by omega)
  refine va_lald hx hb hK hP j0 4 hj0 rfl (vp_in_iff.mpr (by rw [Int32.toInt_ofInt_of_le (by omega) (by omega)]; exact hj)) hd ?_
  rw [hc, show ((j.toNat : Nat) : Int) = j from Int.toNat_of_nonneg hj.1]
  exact kk H locs ws cells slots ls c1 c2 hI hP hD hS hl
theorem a_iast {f N : Nat} {j z : Int} {V' : MS} (C : Cx φ cc own ret cy) (hq : (wsA cy ba V)[f]? = some (ba f, .inl (cy.1, N, .inl (fun i : Nat => Int32.ofInt (V f i))))) (hN : N ≤ 2147483647) (hj : 0 ≤ j ∧ j < N) (hset : (wsA cy ba V).set f (ba f, .inl (cy.1, N, .inl (upd (fun i : Nat => Int32.ofInt (V f i)) j.toNat (Int32.ofInt z)))) = wsA cy ba V') (hd : decode cc pc = .ok (.iastore, 1)) (kk : X φ (LA cy ba (h, V')) k n (pc + 1) L st) : X φ (LA cy ba (h, V)) k n pc L (vi z :: vi j :: vr (some (ba f)) :: st) := by
  obtain ⟨p, l, e, R, s, m, args, below, meth, c, A, nL, D, Q⟩ := φ
  obtain ⟨hx, hb, hr, hml, hown, hts, hlocks, hK, -⟩ := C
  intro H locs ws cells slots ls c1 c2 hI hP hD hS hl
  obtain ⟨w1, hp, h1⟩ := id hI
  obtain ⟨j0, hj0, hst⟩ := pm_set (w1 := w1) hp hq
  have hc := i32_clamp (a := j) hj.1 (by omega)
  refine va_iast hx hb hK hP hD hS j0 0 hj0 rfl (vp_in_iff.mpr (by rw [Int32.toInt_ofInt_of_le (by omega) (by omega)]; exact hj)) hd (fun H1 locs1 hP1 hD1 hS1 => ?_)
  rw [hc] at hP1 hD1
  have hs2 := hst (ba f, .inl (cy.1, N, .inl (upd (fun i : Nat => Int32.ofInt (V f i)) j.toNat (Int32.ofInt z))))
  rw [hset] at hs2
  exact kk H1 locs1 _ cells slots ls c1 c2 ⟨w1, hs2, h1⟩ hP1 hD1 hS1 hl
theorem a_last {j z : Int} (C : Cx φ cc own ret cy) (hj : 0 ≤ j ∧ j < 50) (hd : decode cc pc = .ok (.lastore, 1)) (kk : X φ (LA cy ba (h, mset V 0 j z)) k n (pc + 1) L st) : X φ (LA cy ba (h, V)) k n pc L (vl z :: vi j :: vr (some (ba 0)) :: st) := by
  obtain ⟨p, l, e, R, s, m, args, below, meth, c, A, nL, D, Q⟩ := φ
  obtain ⟨hx, hb, hr, hml, hown, hts, hlocks, hK, -⟩ := C
  intro H locs ws cells slots ls c1 c2 hI hP hD hS hl
  obtain ⟨w1, hp, h1⟩ := id hI
  obtain ⟨j0, hj0, hst⟩ := pm_set (q0 := 0) (w1 := w1) hp rfl
  have hc := i32_clamp (a := j) hj.1 (by omega)
  refine va_last hx hb hK hP hD hS j0 4 hj0 rfl (vp_in_iff.mpr (by rw [Int32.toInt_ofInt_of_le (by omega) (by omega)]; exact hj)) hd (fun H1 locs1 hP1 hD1 hS1 => ?_)
  rw [hc] at hP1 hD1
  have hs2 := hst (ba 0, .inl (cy.2.2.2.2, 50, .inr (.inl (vp_updL (fun i : Nat => Int64.ofInt (V 0 i)) j.toNat (Int64.ofInt z)))))
  rw [wsA_st0 cy ba V hj.1 z] at hs2
  exact kk H1 locs1 _ cells slots ls c1 c2 ⟨w1, hs2, h1⟩ hP1 hD1 hS1 hl
end LARows
section LongRows
variable {φ : Fx} {I : va_W → Prop} {k n pc : Nat} {L : List (Nat × Value)} {st : List Value} {cc : ByteArray} {own : String} {ret : Option FieldType} {cy : CY}
theorem x_lconst {f : Fin 2} {z : Int} (C : Cx φ cc own ret cy) (hd : decode cc pc = .ok (.lconst f, 1)) (hv : Int64.ofNat (f : Nat) = Int64.ofInt z) (kk : X φ I k n (pc + 1) L (vl z :: st)) : X φ I k n pc L st := by
  obtain ⟨p, l, e, R, s, m, args, below, meth, c, A, nL, D, Q⟩ := φ
  obtain ⟨hx, hb, -⟩ := C
  intro H locs ws cells slots ls c1 c2 hI hP hD hS hl
  exact lv_lconst hx hb hd hv (kk H locs ws cells slots ls c1 c2 hI hP hD hS hl)
theorem x_ldc2 {z : Int} {ix : Nat} {v : Int64} (C : Cx φ cc own ret cy) (hw : Cond.constantLong own ix v ∈ wsL_law) (hv : v = Int64.ofInt z) (hd : decode cc pc = .ok (.ldc2_w ix, 3)) (kk : X φ I k n (pc + 3) L (vl z :: st)) : X φ I k n pc L st := by
  obtain ⟨p, l, e, R, s, m, args, below, meth, c, A, nL, D, Q⟩ := φ
  obtain ⟨hx, hb, hr, hml, hown, hts, -⟩ := C
  intro H locs ws cells slots ls c1 c2 hI hP hD hS hl
  subst hv
  exact lv_ldc2 hx hb hown (hts _ hw) hd (kk H locs ws cells slots ls c1 c2 hI hP hD hS hl)
theorem x_i2l {z : Int} (C : Cx φ cc own ret cy) (hz : -2147483648 ≤ z ∧ z ≤ 2147483647) (hd : decode cc pc = .ok (.i2l, 1)) (kk : X φ I k n (pc + 1) L (vl z :: st)) : X φ I k n pc L (vi z :: st) := by
  obtain ⟨p, l, e, R, s, m, args, below, meth, c, A, nL, D, Q⟩ := φ
  obtain ⟨hx, hb, -⟩ := C
  intro H locs ws cells slots ls c1 c2 hI hP hD hS hl
  exact lv_i2l hx hb hd (Int32.toInt64_ofInt hz.1 hz.2) (kk H locs ws cells slots ls c1 c2 hI hP hD hS hl)
theorem x_l2i {z : Int} (C : Cx φ cc own ret cy) (hd : decode cc pc = .ok (.l2i, 1)) (kk : X φ I k n (pc + 1) L (vi z :: st)) : X φ I k n pc L (vl z :: st) := by
  obtain ⟨p, l, e, R, s, m, args, below, meth, c, A, nL, D, Q⟩ := φ
  obtain ⟨hx, hb, -⟩ := C
  intro H locs ws cells slots ls c1 c2 hI hP hD hS hl
  exact lv_l2i hx hb hd Int64.toInt32_ofInt (kk H locs ws cells slots ls c1 c2 hI hP hD hS hl)
theorem x_ladd {a b : Int} (C : Cx φ cc own ret cy) (hd : decode cc pc = .ok (.ladd, 1)) (kk : X φ I k n (pc + 1) L (vl (a + b) :: st)) : X φ I k n pc L (vl b :: vl a :: st) := by
  obtain ⟨p, l, e, R, s, m, args, below, meth, c, A, nL, D, Q⟩ := φ
  obtain ⟨hx, hb, -⟩ := C
  intro H locs ws cells slots ls c1 c2 hI hP hD hS hl
  refine lv_ladd hx hb hd ?_
  rw [← Int64.ofInt_add]
  exact kk H locs ws cells slots ls c1 c2 hI hP hD hS hl
theorem x_lsub {a b : Int} (C : Cx φ cc own ret cy) (hd : decode cc pc = .ok (.lsub, 1)) (kk : X φ I k n (pc + 1) L (vl (a - b) :: st)) : X φ I k n pc L (vl b :: vl a :: st) := by
  obtain ⟨p, l, e, R, s, m, args, below, meth, c, A, nL, D, Q⟩ := φ
  obtain ⟨hx, hb, -⟩ := C
  intro H locs ws cells slots ls c1 c2 hI hP hD hS hl
  refine lv_lsub hx hb hd ?_
  rw [← Int64.ofInt_sub]
  exact kk H locs ws cells slots ls c1 c2 hI hP hD hS hl
theorem x_lmul {a b : Int} (C : Cx φ cc own ret cy) (hd : decode cc pc = .ok (.lmul, 1)) (kk : X φ I k n (pc + 1) L (vl (a * b) :: st)) : X φ I k n pc L (vl b :: vl a :: st) := by
  obtain ⟨p, l, e, R, s, m, args, below, meth, c, A, nL, D, Q⟩ := φ
  obtain ⟨hx, hb, -⟩ := C
  intro H locs ws cells slots ls c1 c2 hI hP hD hS hl
  refine lv_lmul hx hb hd ?_
  rw [← Int64.ofInt_mul]
  exact kk H locs ws cells slots ls c1 c2 hI hP hD hS hl
theorem i64_ne0 {b : Int} (hb0 : 0 < b ∧ b ≤ 2147483647) : ¬ Int64.ofInt b = 0 := by
  intro h
  have h2 := congrArg Int64.toInt h
  rw [Int64.toInt_ofInt_of_le (by omega) (by omega)] at h2
  have h3 : (0 : Int64).toInt = 0 := by decide
  omega
theorem p_ldiv64 {a b : Int} (ha : 0 ≤ a ∧ a ≤ 4611686018427387904) (hb0 : 0 < b ∧ b ≤ 2147483647) : Int64.ofInt a / Int64.ofInt b = Int64.ofInt (a / b) := by
  have m1 : Int64.minValue.toInt = -9223372036854775808 := by decide
  have m2 : Int64.maxValue.toInt = 9223372036854775807 := by decide
  rw [← Int64.ofInt_tdiv (by omega) (by omega) (by omega) (by omega), Int.tdiv_eq_ediv_of_nonneg ha.1]
theorem x_ldiv {a b : Int} (C : Cx φ cc own ret cy) (ha : 0 ≤ a ∧ a ≤ 4611686018427387904) (hb0 : 0 < b ∧ b ≤ 2147483647) (hd : decode cc pc = .ok (.ldiv, 1)) (kk : X φ I k n (pc + 1) L (vl (a / b) :: st)) : X φ I k n pc L (vl b :: vl a :: st) := by
  obtain ⟨p, l, e, R, s, m, args, below, meth, c, A, nL, D, Q⟩ := φ
  obtain ⟨hx, hb, -⟩ := C
  intro H locs ws cells slots ls c1 c2 hI hP hD hS hl
  refine lv_ldiv hx hb hd (i64_ne0 hb0) ?_
  rw [p_ldiv64 ha hb0]
  exact kk H locs ws cells slots ls c1 c2 hI hP hD hS hl
theorem x_lrem {a b : Int} (C : Cx φ cc own ret cy) (ha : 0 ≤ a ∧ a ≤ 4611686018427387904) (hb0 : 0 < b ∧ b ≤ 2147483647) (hd : decode cc pc = .ok (.lrem, 1)) (kk : X φ I k n (pc + 1) L (vl (a % b) :: st)) : X φ I k n pc L (vl b :: vl a :: st) := by
  obtain ⟨p, l, e, R, s, m, args, below, meth, c, A, nL, D, Q⟩ := φ
  obtain ⟨hx, hb, -⟩ := C
  intro H locs ws cells slots ls c1 c2 hI hP hD hS hl
  refine lv_lrem hx hb hd (i64_ne0 hb0) ?_
  have e0 : a - a / b * b = a % b := by
    have := Int.emod_add_mul_ediv a b
    rw [Int.mul_comm (a / b) b]
    omega
  rw [p_ldiv64 ha hb0, ← Int64.ofInt_mul, ← Int64.ofInt_sub, e0]
  exact kk H locs ws cells slots ls c1 c2 hI hP hD hS hl
theorem x_lcmp0 {a : Int} (C : Cx φ cc own ret cy) (ha : -4611686018427387904 ≤ a ∧ a ≤ 4611686018427387904) (hd : decode cc pc = .ok (.lcmp, 1)) (kk : X φ I k n (pc + 1) L (vi (if 0 < a then 1 else if a = 0 then 0 else -1) :: st)) : X φ I k n pc L (vl 0 :: vl a :: st) := by
  obtain ⟨p, l, e, R, s, m, args, below, meth, c, A, nL, D, Q⟩ := φ
  obtain ⟨hx, hb, -⟩ := C
  intro H locs ws cells slots ls c1 c2 hI hP hD hS hl
  refine W.lcmp hx hb hd ?_
  have e1 : (Int64.ofInt a).toInt = a := Int64.toInt_ofInt_of_le (by omega) (by omega)
  have e2 : (Int64.ofInt 0).toInt = 0 := by decide
  have h0 : lg_cmp (Int64.ofInt a) (Int64.ofInt 0) = Int32.ofInt (if 0 < a then 1 else if a = 0 then 0 else -1) := by
    unfold lg_cmp
    simp only [gt_iff_lt, Int64.lt_iff_toInt_lt, ← Int64.toInt_inj, e1, e2]
    by_cases g1 : 0 < a
    · rw [if_pos g1, if_pos g1]; rfl
    · rw [if_neg g1, if_neg g1]
      by_cases g2 : a = 0
      · rw [if_pos g2, if_pos g2]; rfl
      · rw [if_neg g2, if_neg g2]; rfl
  rw [h0]
  exact kk H locs ws cells slots ls c1 c2 hI hP hD hS hl
theorem x_irem {a b : Int} (C : Cx φ cc own ret cy) (hd : decode cc pc = .ok (.irem, 1)) (ha : 0 ≤ a ∧ a ≤ 2147483647) (hb0 : 0 < b ∧ b ≤ 2147483647) (kk : X φ I k n (pc + 1) L (vi (a % b) :: st)) : X φ I k n pc L (vi b :: vi a :: st) := by
  obtain ⟨p, l, e, R, s, m, args, below, meth, c, A, nL, D, Q⟩ := φ
  obtain ⟨hx, hb, -⟩ := C
  intro H locs ws cells slots ls c1 c2 hI hP hD hS hl
  refine lv_irem hx hb hd (fun h => ?_) ?_
  · have h2 := (i32_eq (a := b) (b := 0) (by omega) (by omega)).mp h
    omega
  · have e0 : a - a / b * b = a % b := by
      have := Int.emod_add_mul_ediv a b
      rw [Int.mul_comm (a / b) b]
      omega
    have e1 : Int32.ofInt a / Int32.ofInt b = Int32.ofInt (a / b) := by
      rw [← Int32.ofInt_tdiv (Int.le_trans (by decide) ha.1) ha.2 (Int.le_trans (by decide) (Int.le_of_lt hb0.1)) hb0.2, Int.tdiv_eq_ediv_of_nonneg ha.1]
    rw [e1, ← Int32.ofInt_mul, ← Int32.ofInt_sub, e0]
    exact kk H locs ws cells slots ls c1 c2 hI hP hD hS hl
theorem x_ishr {a b : Int} (C : Cx φ cc own ret cy) (hd : decode cc pc = .ok (.ishr, 1)) (kk : X φ I k n (pc + 1) L (vi (bOp (fun x y => x >>> (y &&& 31)) a b) :: st)) : X φ I k n pc L (vi b :: vi a :: st) := by
  obtain ⟨p, l, e, R, s, m, args, below, meth, c, A, nL, D, Q⟩ := φ
  obtain ⟨hx, hb, -⟩ := C
  intro H locs ws cells slots ls c1 c2 hI hP hD hS hl
  rw [bOp_vi] at kk
  exact lv_ishr hx hb hd (kk H locs ws cells slots ls c1 c2 hI hP hD hS hl)
end LongRows

/-! Worlds in any order; the object, the reference and the law's row of one long beside each other -/
section Perms
variable {D : va_G} {cl : List vw_C} {H : Heap} {A : Nat → Prop} {w ws : va_W}
theorem pm_mem (h : w.Perm ws) {k : Nat} {q : Nat × va_E} (hk : w[k]? = some q) : ∃ j : Nat, ws[j]? = some q := List.getElem?_of_mem (h.mem_iff.mp (List.mem_of_getElem? hk))
theorem pm_P (h : w.Perm ws) (hP : va_P D cl ws H) : va_P D cl w H := fun k q hk => by
  obtain ⟨j, hj⟩ := pm_mem h hk
  exact hP j q hj
theorem D_nodup (hD : va_D A ws) : (ws.map Prod.fst).Nodup := by
  refine List.pairwise_iff_getElem.mpr (fun i j hi hj hij e => ?_)
  rw [List.length_map] at hi hj
  rw [List.getElem_map, List.getElem_map] at e
  have := hD.1 i j ws[i] ws[j] (List.getElem?_eq_getElem hi) (List.getElem?_eq_getElem hj) e
  omega
theorem nodup_D (hN : (ws.map Prod.fst).Nodup) (hA : ∀ (k : Nat) (q : Nat × va_E), ws[k]? = some q → A q.1) : va_D A ws := by
  have h1 := List.pairwise_iff_getElem.mp hN
  have key : ∀ (i j : Nat) (p q : Nat × va_E), ws[i]? = some p → ws[j]? = some q → p.1 = q.1 → ¬ i < j := fun i j p q hi hj e hij => by
    obtain ⟨i1, rfl⟩ := List.getElem?_eq_some_iff.mp hi
    obtain ⟨j1, rfl⟩ := List.getElem?_eq_some_iff.mp hj
    refine h1 i j (by rw [List.length_map]; exact i1) (by rw [List.length_map]; exact j1) hij ?_
    rw [List.getElem_map, List.getElem_map]
    exact e
  refine ⟨fun i j p q hi hj e => ?_, hA⟩
  have k1 := key i j p q hi hj e
  have k2 := key j i q p hj hi e.symm
  omega
theorem pm_D (h : w.Perm ws) (hD : va_D A ws) : va_D A w := nodup_D ((h.map Prod.fst).nodup_iff.mpr (D_nodup hD)) (fun k q hk => by
  obtain ⟨j, hj⟩ := pm_mem h hk
  exact hD.2 j q hj)
theorem pm_A (h : w.Perm ws) {sz q : Nat} (hq : va_A w sz q) : va_A ws sz q := by
  rcases hq with ⟨k, e, hk⟩ | hq
  · obtain ⟨j, hj⟩ := pm_mem h hk
    exact Or.inl ⟨j, e, hj⟩
  · exact Or.inr hq
end Perms
theorem Ct.perm {l : Launch} {D : va_G} {cy : CY} {y : MethodName} {w0 : Cond} {fr lo mc ms : Nat} {σ : Type} {I : σ → va_W → Prop} {as : List Value} {x : σ} {Post : Except String (Option Value) → σ → Prop} (h : Ct l D cy y w0 fr lo mc ms I as x Post) : Ct l D cy y w0 fr lo mc ms (fun x ws => ∃ wz : va_W, wz.Perm ws ∧ I x wz) as x Post := by
  rintro sz ws ⟨w1, hp, hI⟩
  refine vx_conseq2 (h sz w1 hI) ?_ ?_ ?_ (fun q hq => pm_A hp hq)
  · rintro a s ⟨q0, q1, qP, qK, qD, qE⟩
    exact ⟨q0, q1, pm_P hp qP, qK, pm_D hp qD, qE.1.narrow (fun q hq => pm_A hp hq), qE.2.1.narrow (fun q hq => pm_A hp hq), qE.2.2⟩
  · rintro a s o t - ⟨r, x', ws', e1, e2, e3, e4, e5, e6⟩
    exact ⟨r, x', ws', e1, e2, ⟨ws', List.Perm.refl _, e3⟩, e4, e5.weaken (fun k q _ hq => pm_A hp hq), ⟨e6.1, fun q h1 h2 => e6.2 q h1 (fun hq => h2 (pm_A hp hq))⟩⟩
  · rintro a s E t - ⟨x', ws', e2, e3, e4, e5, e6⟩
    exact ⟨x', ws', e2, ⟨ws', List.Perm.refl _, e3⟩, e4, e5.weaken (fun k q _ hq => pm_A hp hq), ⟨e6.1, fun q h1 h2 => e6.2 q h1 (fun hq => h2 (pm_A hp hq))⟩⟩
/-- the law's row of one long -/
def OU (cy : CY) (ao : Nat) (o : Int64) (ws : va_W) : Prop := ∃ g : Nat → Int64, g 0 = o ∧ ws = [(ao, .inl (cy.2.2.2.2, 1, .inr (.inl g)))]
abbrev L3S : Type := HS × (Int × MS) × Int64
def LW3 (cy : CY) (b : Nat → Nat) (ao : Nat) (x : L3S) (ws : va_W) : Prop := ∃ w1 w2 w3 : va_W, (w1 ++ (w2 ++ w3)).Perm ws ∧ RepH cy x.1 w1 ∧ IM cy b x.2.1 w2 ∧ OU cy ao x.2.2 w3
theorem perm_mid (w1 w2 w3 : va_W) : (w2 ++ (w1 ++ w3)).Perm (w1 ++ (w2 ++ w3)) := by
  rw [← List.append_assoc, ← List.append_assoc]
  exact List.Perm.append_right _ List.perm_append_comm
section Lifts
variable {l : Launch} {D : va_G} {cy : CY} {y : MethodName} {w0 : Cond} {fr lo mc ms : Nat} {as : List Value} {b : Nat → Nat} {ao : Nat}
theorem Ct.inM {q : Int × MS} {Post : Except String (Option Value) → Int × MS → Prop} (h : Ct l D cy y w0 fr lo mc ms (IM cy b) as q Post) {hh : HS} {o : Int64} : Ct l D cy y w0 fr lo mc ms (LW3 cy b ao) as (hh, q, o) (fun r x => ∃ q', x = (hh, q', o) ∧ Post r q') := by
  refine Ct.view (Ct.perm (Ct.frame (fun w => ∃ w1 w3 : va_W, w = w1 ++ w3 ∧ RepH cy hh w1 ∧ OU cy ao o w3) h)) ?_ ?_
  · rintro ws ⟨w1, w2, w3, hp, h1, h2, h3⟩
    exact ⟨w2 ++ (w1 ++ w3), (perm_mid w1 w2 w3).trans hp, w2, w1 ++ w3, rfl, h2, w1, w3, rfl, h1, h3⟩
  · rintro r x' ws hpost ⟨wz, hp, w2, wj, rfl, h2, w1, w3, rfl, h1, h3⟩
    exact ⟨(hh, x', o), ⟨x', rfl, hpost⟩, w1, w2, w3, (perm_mid w1 w2 w3).symm.trans hp, h1, h2, h3⟩
theorem Ct.inH {hh : HS} {Post : Except String (Option Value) → HS → Prop} (h : Ct l D cy y w0 fr lo mc ms (RepH cy) as hh Post) {q : Int × MS} {o : Int64} : Ct l D cy y w0 fr lo mc ms (LW3 cy b ao) as (hh, q, o) (fun r x => ∃ h', x = (h', q, o) ∧ Post r h') := by
  refine Ct.view (Ct.perm (Ct.frame (fun w => ∃ w2 w3 : va_W, w = w2 ++ w3 ∧ IM cy b q w2 ∧ OU cy ao o w3) h)) ?_ ?_
  · rintro ws ⟨w1, w2, w3, hp, h1, h2, h3⟩
    exact ⟨w1 ++ (w2 ++ w3), hp, w1, w2 ++ w3, rfl, h1, w2, w3, rfl, h2, h3⟩
  · rintro r x' ws hpost ⟨wz, hp, w1, wj, rfl, h1, w2, w3, rfl, h2, h3⟩
    exact ⟨(x', q, o), ⟨x', rfl, hpost⟩, w1, w2, w3, hp, h1, h2, h3⟩
end Lifts
/-- a body with handlers -/
def RetH (φ : Fx) (hh : List (Nat × Nat × Nat × Nat)) {σ : Type} (I : σ → va_W → Prop) (Post : Except String (Option Value) → σ → Prop) (mc ms : Nat) : Prop :=
  match φ with
  | (_, _, _, R, s, _, args, below, _, c, A, _, D, Q) => c.exceptionTable.toList = tableOf hh ∧ ∃ (ws : va_W) (sz : Nat), s.heap.size = sz ∧ A = va_A ws sz ∧ Q = vx_MQ below (CtQ D I Post ws sz) (CtX D I Post ws sz) args s mc ms (va_A ws sz)
theorem Ct.ofH {l : Launch} {D : va_G} {cy : CY} {y : MethodName} {b : ByteArray} {maxL : Nat} {rt : Option FieldType} {hh : List (Nat × Nat × Nat × Nat)} {fr lo mc ms : Nat} {σ : Type} {I : σ → va_W → Prop} {as : List Value} {x : σ} {Post : Except String (Option Value) → σ → Prop} {own : String}
    (hst : l.stackTraces = false) (hy : plainName y.cls = true) (hown : y.cls = own) (hlen : as.length ≤ maxL) (hcat : ∀ v ∈ as, v.category = 1)
    (body : ∀ φ : Fx, Cx φ b own rt cy → RetH φ hh I Post mc ms → nLof φ = maxL → ROf φ = { frames := fr, cells := mc, slots := ms, locals := lo } → lOf φ = l → DOf φ = D → X φ (I x) 0 0 0 (args1 0 as) []) :
    Ct l D cy y (Cond.codeWith y b maxL rt hh) fr lo mc ms I as x Post := by
  intro sz ws hI
  refine vx_ofWH (cc := b) (maxL := maxL) (ret := rt) (hh := hh) hy rfl ?_
  intro p e s m args below meth c s₁ B hml hv
  obtain ⟨rfl, hsz, hP, hK, hD0, hE⟩ := hv
  have hts := atoms_spec (ws := Cond.codeWith y b maxL rt hh :: wsL_law) B.pre
  have ht := vx_table (x := y) B (hts _ List.mem_cons_self)
  have hownc : s.vm.findClass own = some m.cls := by rw [← hown]; exact findClass_of_methodNamed B.named
  have hbody := body (p, l, e, _, s, m, as.toArray, below, meth, c, va_A ws sz, maxL, D, vx_MQ below (CtQ D I Post ws sz) (CtX D I Post ws sz) as.toArray s mc ms (va_A ws sz))
    ⟨B.exec, B.bytes, B.returns, hml, hownc, fun w hw => hts w (List.mem_cons_of_mem _ hw), B.notSynchronized, hK, fun q hq => Or.inr (by rw [← hsz]; exact hq), hst, hE⟩
    ⟨ht, ws, sz, hsz, rfl, rfl⟩ rfl rfl rfl rfl
  have hl := lv_entry as (n := maxL) (by rw [lg_sl1 as hcat]; exact hlen)
  rw [lv_args1 as 0 hcat] at hl
  rw [lg_entry_eq]
  exact hbody s.heap [] ws 0 0 _ (Nat.le_refl _) (Nat.le_refl _) hI hP hD0.self va_S.rf ⟨hl.1, hl.2.1, fun i v hv => ⟨hl.2.2 _ (lk_mem _ _ _ hv), args1_cat as 0 hcat _ (lk_mem _ _ _ hv)⟩⟩
section HRows
variable {φ : Fx} {k n pc : Nat} {L : List (Nat × Value)} {st : List Value} {cc : ByteArray} {own : String} {ret : Option FieldType} {cy : CY} {hh : List (Nat × Nat × Nat × Nat)}
theorem x_iretH {σ : Type} {I : σ → va_W → Prop} {Post : Except String (Option Value) → σ → Prop} {mc ms : Nat} {x : σ} {z : Int} {ty : FieldType} (C : Cx φ cc own ret cy) (hR : RetH φ hh I Post mc ms) (hd : decode cc pc = .ok (.ireturn, 1)) (hrt : ret = some ty) (hn : narrow ty (vi z) = vi z) (hk : k ≤ mc) (hs : n ≤ ms) (hp : Post (.ok (some (vi z))) x) : X φ (I x) k n pc L [vi z] := by
  obtain ⟨p, l, e, R, s, m, args, below, meth, c, A, nL, D, Q⟩ := φ
  obtain ⟨hx, hb, hr, hml, hown, hts, hlocks, -⟩ := C
  obtain ⟨-, w0, sz, hsz, rfl, rfl⟩ := hR
  intro H locs ws cells slots ls c1 c2 hI hP hD hS hl
  refine W.widen (k := mc) (n := ms) (Nat.le_trans c1 hk) (Nat.le_trans c2 hs) (vx_ret ?_)
  refine W.zret (v := Int32.ofInt z) (ty := ty) hx hb (hr.trans hrt) hn (fun t ht hW => ⟨_, x, ws, rfl, hp, hI, by rw [ht]; exact hP, hD, hS.F ht⟩) hS.2.2 hd hlocks
/-- caught by a row of this method's table -/
theorem xt_catch {σ : Type} {I0 : σ → va_W → Prop} {Post : Except String (Option Value) → σ → Prop} {mc ms : Nat} {I : va_W → Prop} {pre suf : List (Nat × Nat × Nat × Nat)} {sp ep hp ct : Nat} {E : String} (C : Cx φ cc own ret cy) (hR : RetH φ hh I0 Post mc ms) (hsplit : hh = pre ++ (sp, ep, hp, ct) :: suf) (hpass : ∀ z ∈ pre, ∃ nm : String, z.2.2.2 ≠ 0 ∧ Cond.classLink own z.2.2.2 nm ∈ wsL_law ∧ (E, nm) ∈ NCS) (hcov : covers (⟨sp, ep, hp, ct⟩ : ExceptionTableEntry) pc = true) (hct : ct ≠ 0) (hlink : Cond.classLink own ct E ∈ wsL_law) {yE : MethodName} (hyE : yE.cls = E) (hin : Cond.instanceMethod yE ∈ wsL_law) (kk : ∀ q : Nat, X φ I k n hp L [vr (some q)]) : XT φ I k n pc L E := by
  obtain ⟨p, l, e, R, s, m, args, below, meth, c, A, nL, D, Q⟩ := φ
  obtain ⟨hx, hb, hr, hml, hown, hts, hlocks, hK, hA, hstk, hE⟩ := C
  obtain ⟨htb, -⟩ := hR
  intro H locs ws cells slots ls rest q ce c1 c2 hI hP hD hS hl hce hcv hcl
  refine vx_catch (name := E) hown (tableOf pre) ⟨sp, ep, hp, ct⟩ (tableOf suf) (by rw [htb, hsplit]; simp [tableOf]) (fun z hz => ?_) hcov hct (hts _ hlink) (th_cast hyE hts hin) hce hcv hcl ?_
  · simp only [tableOf, List.mem_map] at hz
    obtain ⟨u, hu, rfl⟩ := hz
    obtain ⟨nm, h1, h2, h3⟩ := hpass u hu
    exact Or.inr ⟨h1, nm, hts _ h2, hE.2.2.2.2.2.2 _ h3⟩
  · exact kk q H locs ws cells slots ls c1 c2 hI hP hD hS hl
theorem x_lconst {I : va_W → Prop} {f : Fin 2} {v : Int64} (C : Cx φ cc own ret cy) (hd : decode cc pc = .ok (.lconst f, 1)) (hv : Int64.ofNat (f : Nat) = v) (kk : X φ I k n (pc + 1) L (.long v :: st)) : X φ I k n pc L st := by
  obtain ⟨p, l, e, R, s, m, args, below, meth, c, A, nL, D, Q⟩ := φ
  obtain ⟨hx, hb, -⟩ := C
  intro H locs ws cells slots ls c1 c2 hI hP hD hS hl
  exact lv_lconst hx hb hd hv (kk H locs ws cells slots ls c1 c2 hI hP hD hS hl)
theorem x_i2l {I : va_W → Prop} {z : Int} (C : Cx φ cc own ret cy) (hd : decode cc pc = .ok (.i2l, 1)) (kk : X φ I k n (pc + 1) L (.long (Int32.ofInt z).toInt64 :: st)) : X φ I k n pc L (vi z :: st) := by
  obtain ⟨p, l, e, R, s, m, args, below, meth, c, A, nL, D, Q⟩ := φ
  obtain ⟨hx, hb, -⟩ := C
  intro H locs ws cells slots ls c1 c2 hI hP hD hS hl
  exact lv_i2l hx hb hd rfl (kk H locs ws cells slots ls c1 c2 hI hP hD hS hl)
theorem x_lcmp {I : va_W → Prop} {v : Int64} (C : Cx φ cc own ret cy) (hd : decode cc pc = .ok (.lcmp, 1)) (kk : X φ I k n (pc + 1) L (vi 0 :: st)) : X φ I k n pc L (.long v :: .long v :: st) := by
  obtain ⟨p, l, e, R, s, m, args, below, meth, c, A, nL, D, Q⟩ := φ
  obtain ⟨hx, hb, -⟩ := C
  intro H locs ws cells slots ls c1 c2 hI hP hD hS hl
  have h0 : lg_cmp v v = 0 := by
    unfold lg_cmp
    rw [if_neg (by simp [Int64.lt_iff_toInt_lt]), if_pos rfl]
  refine W.lcmp hx hb hd ?_
  rw [h0]
  exact kk H locs ws cells slots ls c1 c2 hI hP hD hS hl
end HRows
section L3Rows
variable {φ : Fx} {k n pc : Nat} {L : List (Nat × Value)} {st : List Value} {cc : ByteArray} {own : String} {ret : Option FieldType} {cy : CY} {b : Nat → Nat} {ao : Nat} {h : HS} {q : Int × MS} {o : Int64}
theorem l3_recvH {a ci : Nat} (hk : kD h a = ci + 1) (hc : ci < 7) : ∀ ws, LW3 cy b ao (h, q, o) ws → ∃ (q0 : Nat) (fs : List Value), ws[q0]? = some (a, Sum.inr (ci, fs)) := fun ws ⟨w1, w2, w3, hp, h1, _, _⟩ => by
  obtain ⟨q0, fs, hq⟩ := h_recv hk hc w1 h1
  obtain ⟨j, hj⟩ := pm_mem (k := q0) (q := (a, Sum.inr (ci, fs))) hp (by rw [List.getElem?_append_left (List.getElem?_eq_some_iff.mp hq).1]; exact hq)
  exact ⟨j, fs, hj⟩
theorem l3_recvM : ∀ ws, LW3 cy b ao (h, q, o) ws → ∃ (q0 : Nat) (fs : List Value), ws[q0]? = some (b 0, Sum.inr (7, fs)) := fun ws ⟨w1, w2, w3, hp, _, h2, _⟩ => by
  have h2 : w2 = wsM cy b q.1 q.2 := h2
  have hm : (b 0, Sum.inr (7, mflds b q.1 q.2)) ∈ ws := hp.mem_iff.mp (List.mem_append_right _ (List.mem_append_left _ (by rw [h2]; exact List.mem_cons_self)))
  obtain ⟨j, hj⟩ := List.getElem?_of_mem hm
  exact ⟨j, _, hj⟩
theorem vin0 : vp_in (Int32.ofInt 0) 1 := by
  rw [vp_in_iff]
  decide
theorem x_last {v : Int64} (C : Cx φ cc own ret cy) (hd : decode cc pc = .ok (.lastore, 1)) (kk : X φ (LW3 cy b ao (h, q, v)) k n (pc + 1) L st) : X φ (LW3 cy b ao (h, q, o)) k n pc L (.long v :: vi 0 :: vr (some ao) :: st) := by
  obtain ⟨p, l, e, R, s, m, args, below, meth, c, A, nL, D, Q⟩ := φ
  obtain ⟨hx, hb, hr, hml, hown, hts, hlocks, hK, -⟩ := C
  intro H locs ws cells slots ls c1 c2 hI hP hD hS hl
  obtain ⟨w1, w2, w3, hp, h1, h2, g, h3, rfl⟩ := hI
  obtain ⟨s1, s2, rfl⟩ := List.append_of_mem (hp.mem_iff.mp (List.mem_append_right w1 (List.mem_append_right w2 List.mem_cons_self)))
  have hq0 : (s1 ++ (ao, Sum.inl (cy.2.2.2.2, 1, Sum.inr (Sum.inl g))) :: s2)[s1.length]? = some (ao, Sum.inl (cy.2.2.2.2, 1, Sum.inr (Sum.inl g))) := by
    rw [List.getElem?_append_right (Nat.le_refl _), Nat.sub_self]
    rfl
  refine va_last hx hb hK hP hD hS s1.length 4 hq0 rfl vin0 hd (fun H1 locs1 hP1 hD1 hS1 => ?_)
  have hset : ∀ c' : Nat × va_E, (s1 ++ (ao, Sum.inl (cy.2.2.2.2, 1, Sum.inr (Sum.inl g))) :: s2).set s1.length c' = s1 ++ c' :: s2 := fun c' => by
    rw [List.set_append_right _ _ (Nat.le_refl _), Nat.sub_self]
    rfl
  rw [hset] at hP1 hD1
  refine kk H1 locs1 _ cells slots ls c1 c2 ⟨w1, w2, _, ?_, h1, h2, vp_updL g (Int32.ofInt 0).toNatClampNeg v, ?_, rfl⟩ hP1 hD1 hS1 hl
  · have e1 : (w1 ++ (w2 ++ [(ao, Sum.inl (cy.2.2.2.2, 1, Sum.inr (Sum.inl g)))])).Perm ((ao, Sum.inl (cy.2.2.2.2, 1, Sum.inr (Sum.inl g))) :: (s1 ++ s2)) := hp.trans List.perm_middle
    have e2 : ((ao, Sum.inl (cy.2.2.2.2, 1, Sum.inr (Sum.inl g))) :: (w1 ++ w2)).Perm (w1 ++ (w2 ++ [(ao, Sum.inl (cy.2.2.2.2, 1, Sum.inr (Sum.inl g)))])) := by
      rw [← List.append_assoc]
      exact (List.perm_append_singleton _ _).symm
    have e3 := (e2.trans e1).cons_inv
    rw [← List.append_assoc]
    exact (List.perm_append_singleton _ _).trans ((e3.cons _).trans List.perm_middle.symm)
  · have : (Int32.ofInt 0).toNatClampNeg = 0 := by decide
    rw [this]
    rfl
theorem x_lald (C : Cx φ cc own ret cy) (hd : decode cc pc = .ok (.laload, 1)) (kk : X φ (LW3 cy b ao (h, q, o)) k n (pc + 1) L (.long o :: st)) : X φ (LW3 cy b ao (h, q, o)) k n pc L (vi 0 :: vr (some ao) :: st) := by
  obtain ⟨p, l, e, R, s, m, args, below, meth, c, A, nL, D, Q⟩ := φ
  obtain ⟨hx, hb, hr, hml, hown, hts, hlocks, hK, -⟩ := C
  intro H locs ws cells slots ls c1 c2 hI hP hD hS hl
  obtain ⟨w1, w2, w3, hp, h1, h2, g, h3, rfl⟩ := id hI
  obtain ⟨j, hj⟩ := List.getElem?_of_mem (hp.mem_iff.mp (List.mem_append_right w1 (List.mem_append_right w2 List.mem_cons_self)))
  refine va_lald hx hb hK hP j 4 hj rfl vin0 hd ?_
  have : (Int32.ofInt 0).toNatClampNeg = 0 := by decide
  rw [this, h3]
  exact kk H locs ws cells slots ls c1 c2 hI hP hD hS hl
end L3Rows
/-- the words of a static callee with handlers -/
def CBW (y : MethodName) (b : ByteArray) (maxL : Nat) (rt : Option FieldType) (hh : List (Nat × Nat × Nat × Nat)) (np : Nat) : Prop := Cond.codeWith y b maxL rt hh ∈ wsL_law ∧ Cond.initialized y.cls ∈ wsL_law ∧ (y.cls ≠ "java/lang/invoke/MethodHandle" ∧ y.cls ≠ "java/lang/invoke/VarHandle" ∧ (parseMethodDescriptor y.desc).map (fun d => d.parameters.length) = some np)
theorem x_callSW {φ : Fx} {k n pc : Nat} {L : List (Nat × Value)} {st0 rest : List Value} {cc : ByteArray} {own : String} {ret : Option FieldType} {cy : CY} {R0 : Room} {σ : Type} {I : σ → va_W → Prop} {Post : Except String (Option Value) → σ → Prop} {x : σ} {y : MethodName} {b : ByteArray} {maxL : Nat} {rt : Option FieldType} {hh : List (Nat × Nat × Nat × Nat)} {np idx fr lo mc ms : Nat} {as : List Value} (C : Cx φ cc own ret cy) (hR0 : ROf φ = R0) (hB : CBW y b maxL rt hh np) (hV : Cond.static y ∈ wsL_law) (hlink : Cond.methodLink own idx y ∈ wsL_law)
    (hM : Ct (lOf φ) (DOf φ) cy y (Cond.codeWith y b maxL rt hh) fr lo mc ms I as x Post)
    (hlen : as.length = np) (hst : rest.length ≤ 4) (hst0 : st0 = as.reverse ++ rest) (hd : decode cc pc = .ok (.invokestatic idx, 3)) (hroom : fr + 1 ≤ R0.frames ∧ 8 + (maxL + 11) + lo ≤ R0.locals) (hcell : k + mc ≤ R0.cells ∧ n + ms ≤ R0.slots)
    (kx : ∀ E x', Post (.error E) x' → XT φ (I x') (k + mc) (n + ms) pc L E) (kk : ∀ r x', Post (.ok r) x' → X φ (I x') (k + mc) (n + ms) (pc + 3) L (r.toList ++ rest)) : X φ (I x) k n pc L st0 := by
  obtain ⟨p, l, e, R, s, m, args, below, meth, c, A, nL, D, Q⟩ := φ
  obtain ⟨hx, hb, hr, hml, hown, hts, hlocks, hK, hA, hstk, hE⟩ := C
  subst hst0
  have hR : R = R0 := hR0
  subst hR
  intro H locs ws cells slots ls c1 c2 hI hP hD hS hl
  have hgood : GoodIn wsL_law (va_wsS own idx y (Cond.codeWith y b maxL rt hh :: wsL_law)) := goodIn_sub (fun w hw => by
    rcases List.mem_append.mp hw with h | h
    · simp only [List.mem_cons, List.not_mem_nil, or_false] at h
      rcases h with rfl | rfl | rfl
      · exact hlink
      · exact hV
      · exact hB.2.1
    · rcases List.mem_cons.mp h with rfl | h
      · exact hB.1
      · exact h) (List.all_eq_true.mpr fun w hw => by
    rcases List.mem_append.mp hw with h | h
    · simp only [List.mem_cons, List.not_mem_nil, or_false] at h
      rcases h with rfl | rfl | rfl
      · exact ugood1 _ hlink
      · exact ugood1 _ hV
      · exact ugood1 _ hB.2.1
    · rcases List.mem_cons.mp h with rfl | h
      · exact ugood1 _ hB.1
      · exact ugood1 _ h)
  refine X_after (vx_runSX (cc := cc) (As := as) (rest := rest) (index := idx) (own := own) (nL := nL) ⟨hx, hb, hml, hown, hts⟩ (hM H.size ws hI) (vx_cwSW np hts hgood rfl rfl rfl ⟨hB.2.2.1, hB.2.2.2.1, hB.2.2.2.2⟩ hroom) ⟨CtPre.blind, CtPre.start hP hD hS hA hK hE⟩ rfl hlen hl.1 rfl (lv_room (Nat.le_trans (cats_le rest) (by omega))) hd ⟨by omega, by omega⟩) hS (va_A_of hD hS hA) c1 c2 hl kx kk
theorem im_IAE : Cond.instanceMethod (Bundle.initS "java/lang/IllegalArgumentException") ∈ wsL_law := List.mem_append_left _ (List.mem_append_left _ (List.mem_append_right _ (by decide +kernel)))
theorem im_ISE : Cond.instanceMethod (Bundle.initS "java/lang/IllegalStateException") ∈ wsL_law := List.mem_append_left _ (List.mem_append_right _ (by decide +kernel))
theorem im_IOB : Cond.instanceMethod (Bundle.initS "java/lang/IndexOutOfBoundsException") ∈ wsL_law := List.mem_append_right _ (by decide +kernel)

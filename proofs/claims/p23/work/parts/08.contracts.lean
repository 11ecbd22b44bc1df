/-! Contracts over the layer: from a world with I x, by the method's arguments, to an answer or a throw and a world with I x' -/
theorem nws_tab : ∀ w ∈ NWS, w.onTables = true := by decide
theorem nws_warm {s U : State} (hW : s.WarmedH U.vm) : ∀ w ∈ NWS, va_Nw w s → va_Nw w U := by
  intro w hw h
  simp only [NWS, List.mem_cons, List.not_mem_nil, or_false] at hw
  rcases hw with rfl | rfl | rfl <;> exact va_Nw.warmM hW h
theorem EN.moved {A : Nat → Prop} {u U : State} {H : Heap} (hvm : u.vm.Alike U.vm) (hv : U.vm = u.vm) (h : EN A u H) : EN A U H :=
  ⟨h.1.moved hvm, h.2.1.moved hvm, fun q hq => by obtain ⟨a, ha⟩ := h.2.2.1 q hq; exact ⟨a, vk_R.same hv ha⟩, h.2.2.2.1.moved hvm, h.2.2.2.2.1.moved hvm, fun w hw => va_Nw.same (nws_tab w hw) hv.symm (h.2.2.2.2.2.1 w hw), fun q hq => (h.2.2.2.2.2.2 q hq).moved hvm⟩
theorem EN.call {A B : Nat → Prop} {s U : State} {H : Heap} {locs : List Loc} (h : EN A s s.heap) (hS : va_S A s.heap H locs) (hBA : ∀ q, B q → A q) (hU : U.heap = H) (hW : s.WarmedH U.vm) : EN B U U.heap := by
  rw [hU]
  refine ⟨((h.1.kept hS.2.1).narrow hBA).moved hW.alike, ((h.2.1.kept hS.2.1).narrow hBA).moved hW.alike, fun q hq => ?_, h.2.2.2.1.moved hW.alike, h.2.2.2.2.1.moved hW.alike, fun w hw => nws_warm hW w hw (h.2.2.2.2.2.1 w hw), fun q hq => (h.2.2.2.2.2.2 q hq).moved hW.alike⟩
  obtain ⟨a, ha⟩ := h.2.2.1 q hq
  exact ⟨a, vk_R.warm hW ha⟩
def CtPre (D : va_G) (cy : CY) (as : List Value) (ws : va_W) (sz : Nat) : Array Value → State → Prop := va_Pc as (fun U => U.heap.size = sz ∧ va_P D vwCl ws U.heap ∧ va_K D vwCl (TYS cy) U ∧ va_D (fun _ => True) ws ∧ EN (va_A ws sz) U U.heap)
def CtQ {σ : Type} (D : va_G) (I : σ → va_W → Prop) (Post : Except String (Option Value) → σ → Prop) (ws : va_W) (sz : Nat) : Array Value → State → Outcome → State → Prop := fun _ st oc t => ∃ (r : Option Value) (x : σ) (ws' : va_W), oc = .returned r ∧ Post (.ok r) x ∧ I x ws' ∧ va_P D vwCl ws' t.heap ∧ va_D (va_A ws sz) ws' ∧ va_F (va_A ws sz) st t
def CtX {σ : Type} (D : va_G) (I : σ → va_W → Prop) (Post : Except String (Option Value) → σ → Prop) (ws : va_W) (sz : Nat) : String → State → State → Prop := fun E st t => ∃ (x : σ) (ws' : va_W), Post (.error E) x ∧ I x ws' ∧ va_P D vwCl ws' t.heap ∧ va_D (va_A ws sz) ws' ∧ va_F (va_A ws sz) st t
/-- the contract: w0 is the method's own word (its code) -/
def Ct (l : Launch) (D : va_G) (cy : CY) (y : MethodName) (w0 : Cond) (fr lo mc ms : Nat) {σ : Type} (I : σ → va_W → Prop) (as : List Value) (x : σ) (Post : Except String (Option Value) → σ → Prop) : Prop :=
  ∀ (sz : Nat) (ws : va_W), I x ws → vx_Met l y (w0 :: wsL_law) { frames := fr, cells := mc, slots := ms, locals := lo } (CtPre D cy as ws sz) (CtQ D I Post ws sz) (CtX D I Post ws sz) mc ms (va_A ws sz)
theorem CtPre.blind {D : va_G} {cy : CY} {as : List Value} {ws : va_W} {sz : Nat} : FrameBlind (CtPre D cy as ws sz) := fun a U g mk q => by
  obtain ⟨q0, q1, qP, qK, qD, qE⟩ := q
  exact ⟨q0, q1, qP, va_K.moved (u := U) (U := U.calling g mk a) (Vm.Alike.refl U.vm) qK, qD, EN.moved (u := U) (U := U.calling g mk a) (Vm.Alike.refl U.vm) rfl qE⟩
theorem vx_conseq {l : Launch} {y : MethodName} {ws : List Cond} {rm : Room} {Pc Pc' : Array Value → State → Prop} {Qc Qc' : Array Value → State → Outcome → State → Prop} {XC XC' : String → State → State → Prop} {mc ms : Nat} {free free' : Addr → Prop}
    (h : vx_Met l y ws rm Pc Qc XC mc ms free) (hP : ∀ a s, Pc' a s → Pc a s) (hQ : ∀ a s o t, Pc' a s → Qc a s o t → Qc' a s o t) (hX : ∀ a s E t, Pc' a s → XC E s t → XC' E s t) (hf : ∀ q, free q → free' q) : vx_Met l y ws rm Pc' (fun a s o t => Pc' a s → Qc' a s o t) (fun E s t => (∃ a, Pc' a s) → XC' E s t) mc ms free' := by
  intro p e ha hc hk s m args below h1 h2 h3 h4
  obtain ⟨n, o, w1, w2, w3, w4⟩ := h p e ha hc hk s m args below h1 h2 (hP _ _ h3) trivial
  refine ⟨n, o, w1, w2, w3, ?_⟩
  rcases w4 with ⟨hq, L, hF, hL⟩ | ⟨q, hq, E, ce, L, hx, r1, r2, r3, r4, r5, r6⟩
  · exact Or.inl ⟨fun _ => hQ _ _ _ _ h3 hq, L, hF, fun q hq' => hf _ (hL q hq')⟩
  · exact Or.inr ⟨q, hq, E, ce, L, fun _ => hX _ _ _ _ h3 hx, r1, r2, r3, r4, r5, fun z hz => hf _ (r6 z hz)⟩
theorem vx_conseq2 {l : Launch} {y : MethodName} {ws : List Cond} {rm : Room} {Pc Pc' : Array Value → State → Prop} {Qc Qc' : Array Value → State → Outcome → State → Prop} {XC XC' : String → State → State → Prop} {mc ms : Nat} {free free' : Addr → Prop}
    (h : vx_Met l y ws rm Pc Qc XC mc ms free) (hP : ∀ a s, Pc' a s → Pc a s) (hQ : ∀ a s o t, Pc' a s → Qc a s o t → Qc' a s o t) (hX : ∀ a s E t, Pc' a s → XC E s t → XC' E s t) (hf : ∀ q, free q → free' q) : vx_Met l y ws rm Pc' Qc' XC' mc ms free' := by
  intro p e ha hc hk s m args below h1 h2 h3 h4
  obtain ⟨n, o, w1, w2, w3, w4⟩ := h p e ha hc hk s m args below h1 h2 (hP _ _ h3) trivial
  refine ⟨n, o, w1, w2, w3, ?_⟩
  rcases w4 with ⟨hq, L, hF, hL⟩ | ⟨q, hq, E, ce, L, hx, r1, r2, r3, r4, r5, r6⟩
  · exact Or.inl ⟨hQ _ _ _ _ h3 hq, L, hF, fun q hq' => hf _ (hL q hq')⟩
  · exact Or.inr ⟨q, hq, E, ce, L, hX _ _ _ _ h3 hx, r1, r2, r3, r4, r5, fun z hz => hf _ (r6 z hz)⟩
/-- two worlds beside each other -/
def Sep {σ : Type} (I : σ → va_W → Prop) (J : va_W → Prop) (x : σ) (ws : va_W) : Prop := ∃ w1 w2 : va_W, ws = w1 ++ w2 ∧ I x w1 ∧ J w2
theorem sep_parts {w1 w2 : va_W} {A : Nat → Prop} (hD : va_D A (w1 ++ w2)) : va_D A w1 ∧ va_D A w2 ∧ ∀ (j : Nat) (q : Nat × va_E), w2[j]? = some q → ∀ (i : Nat) (p : Nat × va_E), w1[i]? = some p → p.1 ≠ q.1 := by
  have g1 : ∀ (i : Nat) (p : Nat × va_E), w1[i]? = some p → (w1 ++ w2)[i]? = some p := fun i p h => by
    rw [List.getElem?_append_left (List.getElem?_eq_some_iff.mp h).1]; exact h
  have g2 : ∀ (j : Nat) (q : Nat × va_E), w2[j]? = some q → (w1 ++ w2)[w1.length + j]? = some q := fun j q h => by
    rw [List.getElem?_append_right (Nat.le_add_right _ _), Nat.add_sub_cancel_left]; exact h
  refine ⟨⟨fun i j p q hi hj h => hD.1 i j p q (g1 i p hi) (g1 j q hj) h, fun i p hi => hD.2 i p (g1 i p hi)⟩, ⟨fun i j p q hi hj h => ?_, fun i p hi => hD.2 _ p (g2 i p hi)⟩, fun j q hj i p hi h => ?_⟩
  · have := hD.1 _ _ p q (g2 i p hi) (g2 j q hj) h
    omega
  · have h9 := hD.1 _ _ p q (g1 i p hi) (g2 j q hj) h
    have := (List.getElem?_eq_some_iff.mp hi).1
    omega
theorem sep_P {D : va_G} {w1 w2 : va_W} {H : Heap} (hP : va_P D vwCl (w1 ++ w2) H) : va_P D vwCl w1 H ∧ va_P D vwCl w2 H := by
  refine ⟨fun i p h => hP i p (by rw [List.getElem?_append_left (List.getElem?_eq_some_iff.mp h).1]; exact h), fun j q h => hP (w1.length + j) q (by rw [List.getElem?_append_right (Nat.le_add_right _ _), Nat.add_sub_cancel_left]; exact h)⟩
theorem sep_joinP {D : va_G} {w1 w2 : va_W} {H : Heap} (h1 : va_P D vwCl w1 H) (h2 : va_P D vwCl w2 H) : va_P D vwCl (w1 ++ w2) H := by
  intro k q hk
  by_cases h : k < w1.length
  · rw [List.getElem?_append_left h] at hk
    exact h1 k q hk
  · rw [List.getElem?_append_right (by omega)] at hk
    exact h2 _ q hk
theorem sep_joinD {A : Nat → Prop} {w1 w2 : va_W} (h1 : va_D A w1) (h2 : va_D A w2) (h : ∀ (j : Nat) (q : Nat × va_E), w2[j]? = some q → ∀ (i : Nat) (p : Nat × va_E), w1[i]? = some p → p.1 ≠ q.1) : va_D A (w1 ++ w2) := by
  refine ⟨fun i j p q hi hj e => ?_, fun k q hk => ?_⟩
  · by_cases hi' : i < w1.length
    · rw [List.getElem?_append_left hi'] at hi
      by_cases hj' : j < w1.length
      · rw [List.getElem?_append_left hj'] at hj
        exact h1.1 i j p q hi hj e
      · rw [List.getElem?_append_right (by omega)] at hj
        exact absurd e (h _ q hj i p hi)
    · rw [List.getElem?_append_right (by omega)] at hi
      by_cases hj' : j < w1.length
      · rw [List.getElem?_append_left hj'] at hj
        exact absurd e.symm (h _ p hi j q hj)
      · rw [List.getElem?_append_right (by omega)] at hj
        have := h2.1 _ _ p q hi hj e
        omega
  · by_cases hk' : k < w1.length
    · rw [List.getElem?_append_left hk'] at hk
      exact h1.2 k q hk
    · rw [List.getElem?_append_right (by omega)] at hk
      exact h2.2 _ q hk
theorem sep_A {w1 w2 : va_W} {sz : Nat} : ∀ q, va_A w1 sz q → va_A (w1 ++ w2) sz q := by
  rintro q (⟨k, e, h⟩ | h)
  · exact Or.inl ⟨k, e, by rw [List.getElem?_append_left (List.getElem?_eq_some_iff.mp h).1]; exact h⟩
  · exact Or.inr h
theorem sep_back {D : va_G} {w1 w2 w1' : va_W} {st t : State} {sz : Nat} (hsz : st.heap.size = sz) (hP : va_P D vwCl (w1 ++ w2) st.heap) (hD : va_D (fun _ => True) (w1 ++ w2)) (hP1 : va_P D vwCl w1' t.heap) (hD1 : va_D (va_A w1 sz) w1') (hF : va_F (va_A w1 sz) st t) :
    va_P D vwCl (w1' ++ w2) t.heap ∧ va_D (va_A (w1 ++ w2) sz) (w1' ++ w2) ∧ va_F (va_A (w1 ++ w2) sz) st t := by
  obtain ⟨d1, d2, d3⟩ := sep_parts hD
  obtain ⟨p1, p2⟩ := sep_P hP
  have hout : ∀ (j : Nat) (q : Nat × va_E), w2[j]? = some q → ¬ va_A w1 sz q.1 := by
    rintro j q hj (⟨k, e, h⟩ | h)
    · exact d3 j q hj k _ h rfl
    · have := (p2 j q hj).lt
      omega
  refine ⟨sep_joinP hP1 (fun j q hj => (p2 j q hj).kept (hF.2 q.1 (p2 j q hj).lt (hout j q hj))), sep_joinD (hD1.weaken fun k q _ h => sep_A q.1 h) ⟨d2.1, fun j q hj => Or.inl ⟨w1.length + j, q.2, ?_⟩⟩ ?_, ⟨hF.1, fun q h1 h2 => hF.2 q h1 (fun h => h2 (sep_A q h))⟩⟩
  · rw [List.getElem?_append_right (Nat.le_add_right _ _), Nat.add_sub_cancel_left]; exact hj
  · intro j q hj i p hi e
    exact hout j q hj (e ▸ hD1.2 i p hi)
theorem Ct.frame {l : Launch} {D : va_G} {cy : CY} {y : MethodName} {w0 : Cond} {fr lo mc ms : Nat} {σ : Type} {I : σ → va_W → Prop} {as : List Value} {x : σ} {Post : Except String (Option Value) → σ → Prop} (J : va_W → Prop) (h : Ct l D cy y w0 fr lo mc ms I as x Post) : Ct l D cy y w0 fr lo mc ms (Sep I J) as x Post := by
  rintro sz ws ⟨w1, w2, rfl, hI, hJ⟩
  refine vx_conseq2 (h sz w1 hI) ?_ ?_ ?_ (fun q hq => sep_A q hq)
  · rintro a s ⟨q0, q1, qP, qK, qD, qE⟩
    refine ⟨q0, q1, (sep_P qP).1, qK, (sep_parts qD).1, ?_, ?_, qE.2.2⟩
    · exact qE.1.narrow (fun q hq => sep_A q hq)
    · exact qE.2.1.narrow (fun q hq => sep_A q hq)
  · rintro a s o t ⟨q0, q1, qP, qK, qD, qE⟩ ⟨r, x', ws', e1, e2, e3, e4, e5, e6⟩
    obtain ⟨f1, f2, f3⟩ := sep_back q1 qP qD e4 e5 e6
    exact ⟨r, x', ws' ++ w2, e1, e2, ⟨ws', w2, rfl, e3, hJ⟩, f1, f2, f3⟩
  · rintro a s E t ⟨q0, q1, qP, qK, qD, qE⟩ ⟨x', ws', e2, e3, e4, e5, e6⟩
    obtain ⟨f1, f2, f3⟩ := sep_back q1 qP qD e4 e5 e6
    exact ⟨x', ws' ++ w2, e2, ⟨ws', w2, rfl, e3, hJ⟩, f1, f2, f3⟩
theorem Ct.weaken {l : Launch} {D : va_G} {cy : CY} {y : MethodName} {w0 : Cond} {fr lo mc ms : Nat} {σ : Type} {I : σ → va_W → Prop} {as : List Value} {x : σ} {Post Post' : Except String (Option Value) → σ → Prop} (h : Ct l D cy y w0 fr lo mc ms I as x Post) (hp : ∀ r x', Post r x' → Post' r x') : Ct l D cy y w0 fr lo mc ms I as x Post' := by
  intro sz ws hI
  refine vx_conseq2 (h sz ws hI) (fun _ _ h => h) ?_ ?_ (fun q hq => hq)
  · rintro a s o t - ⟨r, x', ws', e1, e2, e3⟩
    exact ⟨r, x', ws', e1, hp _ _ e2, e3⟩
  · rintro a s E t - ⟨x', ws', e2, e3⟩
    exact ⟨x', ws', hp _ _ e2, e3⟩
/-- the same with the state renamed -/
theorem Ct.view {l : Launch} {D : va_G} {cy : CY} {y : MethodName} {w0 : Cond} {fr lo mc ms : Nat} {σ τ : Type} {I : σ → va_W → Prop} {I' : τ → va_W → Prop} {as : List Value} {x : σ} {x0 : τ} {Post : Except String (Option Value) → σ → Prop} {Post' : Except String (Option Value) → τ → Prop} (h : Ct l D cy y w0 fr lo mc ms I as x Post) (h0 : ∀ ws, I' x0 ws → I x ws) (hp : ∀ r x' ws, Post r x' → I x' ws → ∃ x1, Post' r x1 ∧ I' x1 ws) : Ct l D cy y w0 fr lo mc ms I' as x0 Post' := by
  intro sz ws hI
  refine vx_conseq2 (h sz ws (h0 ws hI)) (fun _ _ h => h) ?_ ?_ (fun q hq => hq)
  · rintro a s o t - ⟨r, x', ws', e1, e2, e3, e4⟩
    obtain ⟨x1, g1, g2⟩ := hp _ _ _ e2 e3
    exact ⟨r, x1, ws', e1, g1, g2, e4⟩
  · rintro a s E t - ⟨x', ws', e2, e3, e4⟩
    obtain ⟨x1, g1, g2⟩ := hp _ _ _ e2 e3
    exact ⟨x1, ws', g1, g2, e4⟩
def lOf (φ : Fx) : Launch := match φ with | (_, l, _) => l
def ROf (φ : Fx) : Room := match φ with | (_, _, _, R, _) => R
def DOf (φ : Fx) : va_G := match φ with | (_, _, _, _, _, _, _, _, _, _, _, _, D, _) => D
/-- where a method's body ends -/
def RetOK (φ : Fx) {σ : Type} (I : σ → va_W → Prop) (Post : Except String (Option Value) → σ → Prop) (mc ms : Nat) : Prop :=
  match φ with
  | (_, _, _, R, s, _, args, below, _, c, A, _, D, Q) => (∀ x ∈ c.exceptionTable.toList, False) ∧ ∃ (ws : va_W) (sz : Nat), s.heap.size = sz ∧ A = va_A ws sz ∧ Q = vx_MQ below (CtQ D I Post ws sz) (CtX D I Post ws sz) args s mc ms (va_A ws sz)
theorem Ct.of {l : Launch} {D : va_G} {cy : CY} {y : MethodName} {b : ByteArray} {maxL : Nat} {rt : Option FieldType} {fr lo mc ms : Nat} {σ : Type} {I : σ → va_W → Prop} {as : List Value} {x : σ} {Post : Except String (Option Value) → σ → Prop} {own : String}
    (hst : l.stackTraces = false) (hy : plainName y.cls = true) (hown : y.cls = own) (L0 : List (Nat × Value)) (hlen : (lg_sl as).length ≤ maxL) (hL0 : ∀ ls, lv_has ls maxL (lv_args 0 as) → lh ls maxL L0)
    (body : ∀ φ : Fx, Cx φ b own rt cy → RetOK φ I Post mc ms → nLof φ = maxL → ROf φ = { frames := fr, cells := mc, slots := ms, locals := lo } → lOf φ = l → DOf φ = D → X φ (I x) 0 0 0 L0 []) :
    Ct l D cy y (Cond.code y b maxL rt) fr lo mc ms I as x Post := by
  intro sz ws hI
  refine vx_ofW (cc := b) (maxL := maxL) (ret := rt) hy rfl ?_
  intro p e s m args below meth c s₁ B hml ht hv
  obtain ⟨rfl, hsz, hP, hK, hD0, hE⟩ := hv
  have hts := atoms_spec (ws := Cond.code y b maxL rt :: wsL_law) B.pre
  have hownc : s.vm.findClass own = some m.cls := by rw [← hown]; exact findClass_of_methodNamed B.named
  have hbody := body (p, l, e, _, s, m, as.toArray, below, meth, c, va_A ws sz, maxL, D, vx_MQ below (CtQ D I Post ws sz) (CtX D I Post ws sz) as.toArray s mc ms (va_A ws sz))
    ⟨B.exec, B.bytes, B.returns, hml, hownc, fun w hw => hts w (List.mem_cons_of_mem _ hw), B.notSynchronized, hK, fun q hq => Or.inr (by rw [← hsz]; exact hq), hst, hE⟩
    ⟨ht, ws, sz, hsz, rfl, rfl⟩ rfl rfl rfl rfl
  have hl := lv_entry as (n := maxL) hlen
  rw [lg_entry_eq]
  exact hbody s.heap [] ws 0 0 _ (Nat.le_refl _) (Nat.le_refl _) hI hP hD0.self va_S.rf (hL0 _ hl)
/-- a frame in which q was thrown -/
def XT (φ : Fx) (I : va_W → Prop) (k n pc : Nat) (L : List (Nat × Value)) (E : String) : Prop :=
  match φ with
  | (p, l, e, R, s, m, args, below, meth, c, A, nL, D, Q) => ∀ (H : Heap) (locs : List Loc) (ws : va_W) (cells slots : Nat) (ls : Array Slot) (rest : List Value) (q : Addr) (ce : Cell), cells ≤ k → slots ≤ n → I ws → va_P D vwCl ws H → va_D A ws → va_S A s.heap H locs → lh ls nL L → H[q]? = some ce → ce.vm = .none → s.vm.findClass E = some ce.cls → vx_W p l e R s m args below meth c H locs cells slots Q (F0 m pc ls rest) q
section Ends
variable {φ : Fx} {k n pc : Nat} {L : List (Nat × Value)} {cc : ByteArray} {own : String} {ret : Option FieldType} {cy : CY} {σ : Type} {I : σ → va_W → Prop} {Post : Except String (Option Value) → σ → Prop} {mc ms : Nat} {x : σ}
theorem x_iret {z : Int} {ty : FieldType} (C : Cx φ cc own ret cy) (hR : RetOK φ I Post mc ms) (hd : decode cc pc = .ok (.ireturn, 1)) (hrt : ret = some ty) (hn : narrow ty (vi z) = vi z) (hk : k ≤ mc) (hs : n ≤ ms) (hp : Post (.ok (some (vi z))) x) : X φ (I x) k n pc L [vi z] := by
  obtain ⟨p, l, e, R, s, m, args, below, meth, c, A, nL, D, Q⟩ := φ
  obtain ⟨hx, hb, hr, hml, hown, hts, hlocks, -⟩ := C
  obtain ⟨-, w0, sz, hsz, rfl, rfl⟩ := hR
  intro H locs ws cells slots ls c1 c2 hI hP hD hS hl
  refine W.widen (k := mc) (n := ms) (Nat.le_trans c1 hk) (Nat.le_trans c2 hs) (vx_ret ?_)
  refine W.zret (v := Int32.ofInt z) (ty := ty) hx hb (hr.trans hrt) hn (fun t ht hW => ⟨_, x, ws, rfl, hp, hI, by rw [ht]; exact hP, hD, hS.F ht⟩) hS.2.2 hd hlocks
theorem x_aret {o : Option Nat} {nm : String} (C : Cx φ cc own ret cy) (hR : RetOK φ I Post mc ms) (hd : decode cc pc = .ok (.areturn, 1)) (hrt : ret = some (.object nm)) (hk : k ≤ mc) (hs : n ≤ ms) (hp : Post (.ok (some (vr o))) x) : X φ (I x) k n pc L [vr o] := by
  obtain ⟨p, l, e, R, s, m, args, below, meth, c, A, nL, D, Q⟩ := φ
  obtain ⟨hx, hb, hr, hml, hown, hts, hlocks, -⟩ := C
  obtain ⟨-, w0, sz, hsz, rfl, rfl⟩ := hR
  intro H locs ws cells slots ls c1 c2 hI hP hD hS hl
  refine W.widen (k := mc) (n := ms) (Nat.le_trans c1 hk) (Nat.le_trans c2 hs) (vx_ret ?_)
  refine W.aret (v := vr o) (rt := .object nm) hx hb (hr.trans hrt) (Or.inl ⟨nm, rfl⟩) ?_ (fun t ht hW => ⟨_, x, ws, rfl, hp, hI, by rw [ht]; exact hP, hD, hS.F ht⟩) hS.2.2 hd hlocks
  cases o with
  | none => exact Or.inl rfl
  | some a => exact Or.inr ⟨a, rfl⟩
theorem x_vret (C : Cx φ cc own ret cy) (hR : RetOK φ I Post mc ms) (hd : decode cc pc = .ok (.return_, 1)) (hrt : ret = none) (hk : k ≤ mc) (hs : n ≤ ms) (hp : Post (.ok none) x) : X φ (I x) k n pc L [] := by
  obtain ⟨p, l, e, R, s, m, args, below, meth, c, A, nL, D, Q⟩ := φ
  obtain ⟨hx, hb, hr, hml, hown, hts, hlocks, -⟩ := C
  obtain ⟨-, w0, sz, hsz, rfl, rfl⟩ := hR
  intro H locs ws cells slots ls c1 c2 hI hP hD hS hl
  refine W.widen (k := mc) (n := ms) (Nat.le_trans c1 hk) (Nat.le_trans c2 hs) (vx_ret ?_)
  exact W.vret hx hb (hr.trans hrt) (fun t ht hW => ⟨_, x, ws, rfl, hp, hI, by rw [ht]; exact hP, hD, hS.F ht⟩) hS.2.2 hd hlocks
/-- what a callee threw goes on to the caller -/
theorem xt_out {E : String} (C : Cx φ cc own ret cy) (hR : RetOK φ I Post mc ms) (hk : k ≤ mc) (hs : n ≤ ms) (hp : Post (.error E) x) : XT φ (I x) k n pc L E := by
  obtain ⟨p, l, e, R, s, m, args, below, meth, c, A, nL, D, Q⟩ := φ
  obtain ⟨hx, hb, hr, hml, hown, hts, hlocks, -⟩ := C
  obtain ⟨htb, w0, sz, hsz, rfl, rfl⟩ := hR
  intro H locs ws cells slots ls rest q ce c1 c2 hI hP hD hS hl hce hcv hcl
  refine vx_out (fun z hz => (htb z hz).elim) hlocks hce hcv hcl (fun t ht hA => ⟨x, ws, hp, hI, by rw [ht]; exact hP, hD, hS.F ht⟩) hS.2.2 (Nat.le_trans c1 hk) (Nat.le_trans c2 hs)
end Ends

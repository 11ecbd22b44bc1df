/-! Calls over the layer -/
theorem cat_le2 (v : Value) : v.category ≤ 2 := by
  cases v <;> first | exact Nat.le_refl _ | exact Nat.le_succ _ | decide
theorem cats_le : ∀ (st : List Value), (st.map fun v => v.category).sum ≤ 2 * st.length := by
  intro st
  induction st with
  | nil => simp
  | cons v t ih =>
    have := cat_le2 v
    simp only [List.map_cons, List.sum_cons, List.length_cons]
    omega
theorem va_A_of {A : Nat → Prop} {ws : va_W} {H0 H : Heap} {locs : List Loc} (hD : va_D A ws) (hS : va_S A H0 H locs) (hA : ∀ q, H0.size ≤ q → A q) : ∀ q, va_A ws H.size q → A q := by
  rintro q (⟨k, e, h⟩ | h)
  · exact hD.2 k _ h
  · exact hA q (Nat.le_trans hS.1 h)
section Calls
variable {p : Program} {l : Launch} {e : Env} {R : Room} {s : State} {m : MethodId} {args : Array Value} {below : List Frame} {meth : Method} {c : Code} {A : Nat → Prop} {nL : Nat} {D : va_G} {Q : State → Prop}
theorem X_after {k n pc : Nat} {L : List (Nat × Value)} {st0 rest : List Value} {σ : Type} {I : σ → va_W → Prop} {Post : Except String (Option Value) → σ → Prop} {mc ms cells slots : Nat} {H : Heap} {locs : List Loc} {ws : va_W} {ls : Array Slot} {a : Array Value}
    (hr : vx_Run p l e R s m args below meth c H locs cells slots mc ms (F0 m pc ls st0) rest (CtQ D I Post ws H.size a) (CtX D I Post ws H.size) (va_A ws H.size)) (hS : va_S A s.heap H locs) (hsub : ∀ q, va_A ws H.size q → A q) (c1 : cells ≤ k) (c2 : slots ≤ n) (hl : lh ls nL L)
    (kx : ∀ E x', Post (.error E) x' → XT (p, l, e, R, s, m, args, below, meth, c, A, nL, D, Q) (I x') (k + mc) (n + ms) pc L E)
    (kk : ∀ r x', Post (.ok r) x' → X (p, l, e, R, s, m, args, below, meth, c, A, nL, D, Q) (I x') (k + mc) (n + ms) (pc + 3) L (r.toList ++ rest)) :
    W p l e R s m args below meth c H locs cells slots Q (F0 m pc ls st0) := by
  intro T hT X0
  rcases hr T hT X0 with ⟨v, st₀, t, T', L1, h0, X', hL, e1, e2, ⟨r, x', ws', hv, hp, hI, hP', hD', hF⟩, st⟩ | ⟨q, st₀, t, T', L1, E, ce, h0, X', hL, e1, e2, ⟨x', ws', hp, hI, hP', hD', hF⟩, hce, hcv, hcl, st⟩
  · cases hv
    obtain ⟨k1, k2, k3⟩ := vx_keep h0 e1 hS (fun q _ h => hsub q h) hsub hL hF
    obtain ⟨t2, a1, b1⟩ := kk _ x' hp T'.heap (locs ++ L1) ws' _ _ ls (Nat.add_le_add_right c1 mc) (Nat.add_le_add_right c2 ms) hI (by rw [e1]; exact hP') (hD'.weaken fun _ _ _ h => hsub _ h) k3 hl T' rfl X'
    exact ⟨t2, st t2 a1, b1⟩
  · obtain ⟨k1, k2, k3⟩ := vx_keep h0 e1 hS (fun q _ h => hsub q h) hsub hL hF
    obtain ⟨t2, a1, b1⟩ := kx E x' hp T'.heap (locs ++ L1) ws' _ _ ls rest q ce (Nat.add_le_add_right c1 mc) (Nat.add_le_add_right c2 ms) hI (by rw [e1]; exact hP') (hD'.weaken fun _ _ _ h => hsub _ h) k3 hl (by rw [e1]; exact hce) hcv hcl T' rfl X'
    exact ⟨t2, st.trans a1, b1⟩
end Calls
theorem CtPre.start {D : va_G} {cy : CY} {as : List Value} {ws : va_W} {A : Nat → Prop} {s : State} {H : Heap} {locs : List Loc} (hP : va_P D vwCl ws H) (hD : va_D A ws) (hS : va_S A s.heap H locs) (hA : ∀ q, s.heap.size ≤ q → A q) (hK : va_K D vwCl (TYS cy) s) (hE : EN A s s.heap) : ∀ U : State, U.heap = H → s.WarmedH U.vm → CtPre D cy as ws H.size as.toArray U := fun U hU hW =>
  ⟨rfl, by rw [hU], by rw [hU]; exact hP, va_K.moved hW.alike hK, hD.weaken (fun _ _ _ _ => trivial), EN.call hE hS (va_A_of hD hS hA) hU hW⟩
section Rules
variable {φ : Fx} {k n pc : Nat} {L : List (Nat × Value)} {st0 rest : List Value} {cc : ByteArray} {own : String} {ret : Option FieldType} {cy : CY} {R0 : Room} {σ : Type} {I : σ → va_W → Prop} {Post : Except String (Option Value) → σ → Prop} {x : σ} {y : MethodName} {b : ByteArray} {maxL : Nat} {rt : Option FieldType} {np idx fr lo mc ms : Nat} {as : List Value}
theorem x_callV {ci a : Nat} (C : Cx φ cc own ret cy) (hR0 : ROf φ = R0) (hB : CB y b maxL rt np) (hV : CV y) (hlink : Cond.methodLink own idx y ∈ wsL_law)
    (hM : Ct (lOf φ) (DOf φ) cy y (Cond.code y b maxL rt) fr lo mc ms I (vr (some a) :: as) x Post) (hrc : ∀ ws, I x ws → ∃ (q0 : Nat) (fs : List Value), ws[q0]? = some (a, Sum.inr (ci, fs))) (hci : ∃ T N, vwCl[ci]? = some (y.cls, T, N))
    (hlen : as.length = np) (hst : rest.length ≤ 4) (hst0 : st0 = as.reverse ++ vr (some a) :: rest) (hd : decode cc pc = .ok (.invokevirtual idx, 3)) (hroom : fr + 1 ≤ R0.frames ∧ 8 + (maxL + 11) + lo ≤ R0.locals) (hcell : k + mc ≤ R0.cells ∧ n + ms ≤ R0.slots)
    (kx : ∀ E x', Post (.error E) x' → XT φ (I x') (k + mc) (n + ms) pc L E) (kk : ∀ r x', Post (.ok r) x' → X φ (I x') (k + mc) (n + ms) (pc + 3) L (r.toList ++ rest)) : X φ (I x) k n pc L st0 := by
  obtain ⟨p, l, e, R, s, m, args, below, meth, c, A, nL, D, Q⟩ := φ
  obtain ⟨hx, hb, hr, hml, hown, hts, hlocks, hK, hA, hstk, hE⟩ := C
  subst hst0
  have hR : R = R0 := hR0
  subst hR
  intro H locs ws cells slots ls c1 c2 hI hP hD hS hl
  obtain ⟨q0, fs, hq0⟩ := hrc ws hI
  obtain ⟨T, N, hci⟩ := hci
  have hgood : GoodIn wsL_law (wsV own idx y.cls y (Cond.code y b maxL rt :: wsL_law)) := goodIn_sub (fun w hw => by
    rcases List.mem_append.mp hw with h | h
    · simp only [List.mem_cons, List.not_mem_nil, or_false] at h
      rcases h with rfl | rfl | rfl | rfl
      · exact hlink
      · exact hV.1
      · exact hV.2
      · exact hB.2.1
    · rcases List.mem_cons.mp h with rfl | h
      · exact hB.1
      · exact h) (List.all_eq_true.mpr fun w hw => by
    rcases List.mem_append.mp hw with h | h
    · simp only [List.mem_cons, List.not_mem_nil, or_false] at h
      rcases h with rfl | rfl | rfl | rfl
      · exact ugood1 _ hlink
      · exact ugood1 _ hV.1
      · exact ugood1 _ hV.2
      · exact ugood1 _ hB.2.1
    · rcases List.mem_cons.mp h with rfl | h
      · exact ugood1 _ hB.1
      · exact ugood1 _ h)
  refine X_after (vx_runV (cc := cc) (C := y.cls) (As := as) (b := a) (rest := rest) (index := idx) (own := own) (nL := nL) ⟨hx, hb, hml, hown, hts⟩ (hM H.size ws hI) (cwV np hts hgood rfl rfl rfl ⟨rfl, hB.2.2.1, hB.2.2.2.1, hB.2.2.2.2⟩ hroom) ⟨CtPre.blind, va_recv hK hP hci hq0, CtPre.start hP hD hS hA hK hE⟩ rfl hlen hl.1 rfl (lv_room (Nat.le_trans (cats_le rest) (by omega))) hd ⟨by omega, by omega⟩) hS (va_A_of hD hS hA) c1 c2 hl kx kk
theorem x_callS (C : Cx φ cc own ret cy) (hR0 : ROf φ = R0) (hB : CB y b maxL rt np) (hV : Cond.static y ∈ wsL_law) (hlink : Cond.methodLink own idx y ∈ wsL_law)
    (hM : Ct (lOf φ) (DOf φ) cy y (Cond.code y b maxL rt) fr lo mc ms I as x Post)
    (hlen : as.length = np) (hst : rest.length ≤ 4) (hst0 : st0 = as.reverse ++ rest) (hd : decode cc pc = .ok (.invokestatic idx, 3)) (hroom : fr + 1 ≤ R0.frames ∧ 8 + (maxL + 11) + lo ≤ R0.locals) (hcell : k + mc ≤ R0.cells ∧ n + ms ≤ R0.slots)
    (kx : ∀ E x', Post (.error E) x' → XT φ (I x') (k + mc) (n + ms) pc L E) (kk : ∀ r x', Post (.ok r) x' → X φ (I x') (k + mc) (n + ms) (pc + 3) L (r.toList ++ rest)) : X φ (I x) k n pc L st0 := by
  obtain ⟨p, l, e, R, s, m, args, below, meth, c, A, nL, D, Q⟩ := φ
  obtain ⟨hx, hb, hr, hml, hown, hts, hlocks, hK, hA, hstk, hE⟩ := C
  subst hst0
  have hR : R = R0 := hR0
  subst hR
  intro H locs ws cells slots ls c1 c2 hI hP hD hS hl
  have hgood : GoodIn wsL_law (va_wsS own idx y (Cond.code y b maxL rt :: wsL_law)) := goodIn_sub (fun w hw => by
    rcases List.mem_append.mp hw with h | h
    · simp only [List.mem_cons, List.not_mem_nil, or_false] at h
      rcases h with rfl | rfl | rfl
      · exact hlink
      · exact hV
      · exact hB.2.1
    · rcases List.mem_cons.mp h with rfl | h
      · exact hB.1
      · exact h) (List.all_eq_true.mpr fun w hw => by
    rcases List.mem_append.mp hw with h | h
    · simp only [List.mem_cons, List.not_mem_nil, or_false] at h
      rcases h with rfl | rfl | rfl
      · exact ugood1 _ hlink
      · exact ugood1 _ hV
      · exact ugood1 _ hB.2.1
    · rcases List.mem_cons.mp h with rfl | h
      · exact ugood1 _ hB.1
      · exact ugood1 _ h)
  refine X_after (vx_runS (cc := cc) (As := as) (rest := rest) (index := idx) (own := own) (nL := nL) ⟨hx, hb, hml, hown, hts⟩ (hM H.size ws hI) (va_cwS np hts hgood rfl rfl rfl ⟨hB.2.2.1, hB.2.2.2.1, hB.2.2.2.2⟩ hroom) ⟨CtPre.blind, CtPre.start hP hD hS hA hK hE⟩ rfl hlen hl.1 rfl (lv_room (Nat.le_trans (cats_le rest) (by omega))) hd ⟨by omega, by omega⟩) hS (va_A_of hD hS hA) c1 c2 hl kx kk
theorem good_code {y : MethodName} {b : ByteArray} {maxL : Nat} {rt : Option FieldType} (h : Cond.code y b maxL rt ∈ wsL_law) : GoodIn wsL_law (Cond.code y b maxL rt :: wsL_law) := fun w hw => by
  rcases List.mem_cons.mp hw with rfl | hw
  · exact ugood _ h
  · exact ugood _ hw
theorem x_callI {a : Nat} (C : Cx φ cc own ret cy) (hR0 : ROf φ = R0) (hB : CB y b maxL none np) (hin : Cond.instanceMethod y ∈ wsL_law) (hy1 : y.name = "<init>") (hlink : Cond.methodLink own idx y ∈ wsL_law)
    (hM : Ct (lOf φ) (DOf φ) cy y (Cond.code y b maxL none) fr lo mc ms I (vr (some a) :: as) x Post)
    (hlen : as.length = np) (hst : rest.length ≤ 4) (hst0 : st0 = as.reverse ++ vr (some a) :: rest) (hd : decode cc pc = .ok (.invokespecial idx, 3)) (hroom : fr + 1 ≤ R0.frames ∧ 8 + (maxL + 11) + lo ≤ R0.locals) (hcell : k + mc ≤ R0.cells ∧ n + ms ≤ R0.slots)
    (kx : ∀ E x', Post (.error E) x' → XT φ (I x') (k + mc) (n + ms) pc L E) (kk : ∀ r x', Post (.ok r) x' → X φ (I x') (k + mc) (n + ms) (pc + 3) L (r.toList ++ rest)) : X φ (I x) k n pc L st0 := by
  obtain ⟨p, l, e, R, s, m, args, below, meth, c, A, nL, D, Q⟩ := φ
  obtain ⟨hx, hb, hr, hml, hown, hts, hlocks, hK, hA, hstk, hE⟩ := C
  subst hst0
  have hR : R = R0 := hR0
  subst hR
  intro H locs ws cells slots ls c1 c2 hI hP hD hS hl
  refine X_after (vx_runI (cc := cc) (As := as) (b := a) (rest := rest) (index := idx) (own := own) (nL := nL) ⟨hx, hb, hml, hown, hts⟩ (hM H.size ws hI) (cwI np hts (good_code hB.1) rfl rfl rfl (hts _ hB.2.1) (hts _ hlink) (hts _ hin) hy1 hB.2.2 hroom) ⟨CtPre.blind, CtPre.start hP hD hS hA hK hE⟩ rfl hlen hl.1 rfl (lv_room (Nat.le_trans (cats_le rest) (by omega))) hd ⟨by omega, by omega⟩) hS (va_A_of hD hS hA) c1 c2 hl kx kk
theorem x_callIN {a : Nat} {host : String} (C : Cx φ cc own ret cy) (hR0 : ROf φ = R0) (hB : CB y b maxL none np) (hin : Cond.instanceMethod y ∈ wsL_law) (hy1 : y.name = "<init>") (hlink : Cond.methodLinkNest own idx y host ∈ NWS)
    (hM : Ct (lOf φ) (DOf φ) cy y (Cond.code y b maxL none) fr lo mc ms I (vr (some a) :: as) x Post)
    (hlen : as.length = np) (hst : rest.length ≤ 4) (hst0 : st0 = as.reverse ++ vr (some a) :: rest) (hd : decode cc pc = .ok (.invokespecial idx, 3)) (hroom : fr + 1 ≤ R0.frames ∧ 8 + (maxL + 11) + lo ≤ R0.locals) (hcell : k + mc ≤ R0.cells ∧ n + ms ≤ R0.slots)
    (kx : ∀ E x', Post (.error E) x' → XT φ (I x') (k + mc) (n + ms) pc L E) (kk : ∀ r x', Post (.ok r) x' → X φ (I x') (k + mc) (n + ms) (pc + 3) L (r.toList ++ rest)) : X φ (I x) k n pc L st0 := by
  obtain ⟨p, l, e, R, s, m, args, below, meth, c, A, nL, D, Q⟩ := φ
  obtain ⟨hx, hb, hr, hml, hown, hts, hlocks, hK, hA, hstk, hE⟩ := C
  subst hst0
  have hR : R = R0 := hR0
  subst hR
  intro H locs ws cells slots ls c1 c2 hI hP hD hS hl
  refine X_after (vx_runIN (cc := cc) (As := as) (b := a) (rest := rest) (index := idx) (own := own) (nL := nL) (host := host) ⟨hx, hb, hml, hown, hts⟩ (hM H.size ws hI) ⟨va_cnB np hts (good_code hB.1) rfl rfl rfl (hE.2.2.2.2.2.1 _ hlink) (hts _ hB.2.1) hB.2.2 hroom, hy1, hts _ hin⟩ ⟨CtPre.blind, CtPre.start hP hD hS hA hK hE⟩ rfl hlen hl.1 rfl (lv_room (Nat.le_trans (cats_le rest) (by omega))) hd ⟨by omega, by omega⟩) hS (va_A_of hD hS hA) c1 c2 hl kx kk
theorem x_callSN {host : String} (C : Cx φ cc own ret cy) (hR0 : ROf φ = R0) (hB : CB y b maxL rt np) (hV : Cond.static y ∈ wsL_law) (hlink : Cond.methodLinkNest own idx y host ∈ NWS)
    (hM : Ct (lOf φ) (DOf φ) cy y (Cond.code y b maxL rt) fr lo mc ms I as x Post)
    (hlen : as.length = np) (hst : rest.length ≤ 4) (hst0 : st0 = as.reverse ++ rest) (hd : decode cc pc = .ok (.invokestatic idx, 3)) (hroom : fr + 1 ≤ R0.frames ∧ 8 + (maxL + 11) + lo ≤ R0.locals) (hcell : k + mc ≤ R0.cells ∧ n + ms ≤ R0.slots)
    (kx : ∀ E x', Post (.error E) x' → XT φ (I x') (k + mc) (n + ms) pc L E) (kk : ∀ r x', Post (.ok r) x' → X φ (I x') (k + mc) (n + ms) (pc + 3) L (r.toList ++ rest)) : X φ (I x) k n pc L st0 := by
  obtain ⟨p, l, e, R, s, m, args, below, meth, c, A, nL, D, Q⟩ := φ
  obtain ⟨hx, hb, hr, hml, hown, hts, hlocks, hK, hA, hstk, hE⟩ := C
  subst hst0
  have hR : R = R0 := hR0
  subst hR
  intro H locs ws cells slots ls c1 c2 hI hP hD hS hl
  refine X_after (vx_runSN (cc := cc) (As := as) (rest := rest) (index := idx) (own := own) (nL := nL) (host := host) ⟨hx, hb, hml, hown, hts⟩ (hM H.size ws hI) ⟨va_cnB np hts (good_code hB.1) rfl rfl rfl (hE.2.2.2.2.2.1 _ hlink) (hts _ hB.2.1) hB.2.2 hroom, hts _ hV, trivial⟩ ⟨CtPre.blind, CtPre.start hP hD hS hA hK hE⟩ rfl hlen hl.1 rfl (lv_room (Nat.le_trans (cats_le rest) (by omega))) hd ⟨by omega, by omega⟩) hS (va_A_of hD hS hA) c1 c2 hl kx kk
/-- Math.max -/
theorem x_max {I : va_W → Prop} {a b : Int} (C : Cx φ cc own ret cy) (hR0 : ROf φ = R0) (hlink : Cond.methodLink own idx Lib.Math.max.name ∈ wsL_law) (hsta : Cond.static Lib.Math.max.name ∈ wsL_law) (hini : Cond.initialized "java/lang/Math" ∈ wsL_law) (hcode : Cond.code Lib.Math.max.name Lib.Math.max.code 2 (some .int) ∈ wsL_law)
    (hd : decode cc pc = .ok (.invokestatic idx, 3)) (hroom : 1 ≤ R0.frames ∧ 21 ≤ R0.locals) (hst : rest.length ≤ 4) (hcell : k ≤ R0.cells ∧ n ≤ R0.slots) (ha : -2147483648 ≤ a ∧ a ≤ 2147483647) (hb : -2147483648 ≤ b ∧ b ≤ 2147483647)
    (kk : X φ I k n (pc + 3) L (vi (if a < b then b else a) :: rest)) : X φ I k n pc L (vi b :: vi a :: rest) := by
  obtain ⟨p, l, e, R, s, m, args, below, meth, c, A, nL, D, Q⟩ := φ
  obtain ⟨hx, hb9, hr, hml, hown, hts, hlocks, hK, hA, hstk, hE⟩ := C
  have hR : R = R0 := hR0
  subst hR
  intro H locs ws cells slots ls c1 c2 hI hP hD hS hl
  have h8 := cats_le rest
  refine va_mmax hx hb9 (hml.trans hl.1.symm) hown (hts _ hlink) (hts _ hsta) (hts _ hini) (hts _ hcode) hroom.1 (by omega) (by omega) (by omega) hd ?_
  have h := kk H locs ws cells slots ls c1 c2 hI hP hD hS hl
  have he : (if Int32.ofInt a < Int32.ofInt b then Int32.ofInt b else Int32.ofInt a) = Int32.ofInt (if a < b then b else a) := by
    by_cases hab : a < b
    · rw [if_pos hab, if_pos ((i32_lt ha hb).mpr hab)]
    · rw [if_neg hab, if_neg (fun h => hab ((i32_lt ha hb).mp h))]
  rw [he]
  exact h
/-- Object's constructor -/
theorem x_objInit {I : va_W → Prop} {a : Nat} (C : Cx φ cc own ret cy) (hR0 : ROf φ = R0) (hlink : Cond.methodLink own idx Lib.objectInit ∈ wsL_law) (hin : Cond.instanceMethod Lib.objectInit ∈ wsL_law) (hcode : Cond.code Lib.objectInit ⟨#[0xb1]⟩ 1 none ∈ wsL_law)
    (hd : decode cc pc = .ok (.invokespecial idx, 3)) (hroom : 1 ≤ R0.frames ∧ 20 ≤ R0.locals) (hst : rest.length ≤ 4)
    (kk : X φ I k n (pc + 3) L rest) : X φ I k n pc L (vr (some a) :: rest) := by
  obtain ⟨p, l, e, R, s, m, args, below, meth, c, A, nL, D, Q⟩ := φ
  obtain ⟨hx, hb9, hr, hml, hown, hts, hlocks, hK, hA, hstk, hE⟩ := C
  have hR : R = R0 := hR0
  subst hR
  intro H locs ws cells slots ls c1 c2 hI hP hD hS hl
  have h8 := cats_le rest
  have h9 : 2 * (F0 m pc ls (vr (some a) :: rest)).monitorRoom + (rest.map fun v => v.category).sum ≤ 8 := lv_room (Nat.le_trans h8 (by omega))
  refine W.objInit hx hb9 hown (hts _ hlink) (hts _ hin) (hts _ hcode) rfl (hl.1.trans hml.symm) rfl hd hroom.1 (by omega) ?_
  exact kk H locs ws cells slots ls c1 c2 hI hP hD hS hl
end Rules

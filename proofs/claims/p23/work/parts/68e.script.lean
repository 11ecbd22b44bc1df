/-! THE CLAIM OUT OF ONE WALK OF THE LAW'S BODY. Your part is whole_start (and what it stands on); all else here is the same for every law, but numbers. -/
def R_law : String := "VisitorLoomLaw"
def lw_P (b : Addr) (xs : List Int32) (args : Array Value) (s : State) : Prop := args = #[.ref b] ∧ s.IntsAt b xs ∧ xs.length ≤ 260 ∧ (Jvm.Cond.and given_1 narrow_1).before args s = true
def lw_Q (_ : Array Value) (s : State) (o : Outcome) (t : State) : Prop := o = .returned (some (.int 1)) ∧ Framed s o t [] 600074 7301550
def lw_Z (below : List Frame) (a : Array Value) (s : State) : State → Prop := fun t => ∃ o, t.status = .running ∧ Ended t below o ∧ lw_Q a s o t
/-- the law's own end, with 1 on the stack, nothing written that was there before, its room as the claim has it -/
theorem lw_ret {p : Program} {l : Launch} {e : Env} {s : State} {m : MethodId} {below : List Frame} {meth : Method} {c : Code} {b : Nat} (hx : p.tables.exec = Jvm.exec) (hb : c.code = code) (hr : meth.sig.returnType = ret) (hlocks : meth.locks = false) {pc : Nat} {H : Heap} {ls : Array Slot} (hdg : decode code pc = .ok (.ireturn, 1)) : W p l e room_1 s m #[Value.ref b] below meth c H [] 600074 7301550 (lw_Z below #[Value.ref b] s) (F0 m pc ls [.int 1]) := by
  intro T hT X
  obtain ⟨fs, hret, hrun, hended, hW, hframe⟩ := X.leave (v := some (.int 1)) (hlocks := hlocks) (fun h => by rw [hr] at h; cases h)
  have hmeth' : T.vm.method? m = some meth := X.method'
  refine ⟨T.setFrames fs, ?_, .returned (some (.int 1)), hrun, hended, rfl, ⟨_, rfl⟩, hW, hframe⟩
  jvm_step X.here [X.here.top, hx, hb, hdg, hmeth', hr, ret, narrow_b1]
  (try refine ⟨rfl, ?_⟩); (try refine ⟨rfl, ?_⟩)
  first | (intro acts; rw [hret _ acts rfl rfl rfl]) | rw [hret _ _ rfl rfl rfl]
  exact Steps.refl _
/-- what holds at the law's entry: the machine, the code, the tables' words (any of lw_tbl by 'hts w (by decide +kernel)'), the script of L ints xs at the cell b, what the Statement gives of the start (any of its parts by flat_of_before) -/
def lw_At (p : Program) (s : State) (m : MethodId) (meth : Method) (c : Code) (b L : Nat) (xs : Nat → Int32) : Prop :=
  p.tables.exec = Jvm.exec ∧ c.code = code ∧ meth.sig.returnType = ret ∧ c.maxLocals = 19 ∧ s.vm.findClass R_law = some m.cls ∧ (∀ w ∈ lw_tbl, w.before #[Value.ref b] s = true) ∧ va_X b L xs s s.heap ∧ b < s.heap.size ∧ meth.locks = false ∧ (Jvm.Cond.and given_1 narrow_1).before #[Value.ref b] s = true
/-! The law's own rows -/
def SX (φ : Fx) (bs Ls : Nat) (xs : Nat → Int32) : Prop := match φ with | (_, _, _, _, s, _, _, _, _, _, A, _, _, _) => va_X bs Ls xs s s.heap ∧ bs < s.heap.size ∧ ¬ A bs
def sc (xs : Nat → Int32) (j : Int) : Int := (xs j.toNat).toInt
theorem sc_rng (xs : Nat → Int32) (j : Int) : -2147483648 ≤ sc xs j ∧ sc xs j ≤ 2147483647 := i32_range _
theorem Cx.st {φ : Fx} {cc : ByteArray} {own : String} {ret : Option FieldType} {cy : CY} (C : Cx φ cc own ret cy) : (lOf φ).stackTraces = false := by
  obtain ⟨p, l, e, R, s, m, args, below, meth, c, A, nL, D, Q⟩ := φ
  obtain ⟨hx, hb, hr, hml, hown, hts, hlocks, hK, hA, hstk, hE⟩ := C
  exact hstk
def LawRet (φ : Fx) : Prop := match φ with | (_, _, _, R, s, _, args, below, _, _, A, _, _, Q) => R = room_1 ∧ ∃ bs : Nat, args = #[Value.ref bs] ∧ A = (fun q : Nat => s.heap.size ≤ q) ∧ Q = lw_Z below #[Value.ref bs] s
section LawRows
variable {φ : Fx} {I : va_W → Prop} {k n pc : Nat} {L : List (Nat × Value)} {st : List Value} {cc : ByteArray} {own : String} {cy : CY} {bs Ls : Nat} {xs : Nat → Int32} {rt : Option FieldType}
theorem x_sld {j : Int} (C : Cx φ cc own rt cy) (hX : SX φ bs Ls xs) (hL : Ls ≤ 260) (hj : 0 ≤ j ∧ j < Ls) (hd : decode cc pc = .ok (.iaload, 1)) (kk : X φ I k n (pc + 1) L (vi (sc xs j) :: st)) : X φ I k n pc L (vi j :: vr (some bs) :: st) := by
  obtain ⟨p, l, e, R, s, m, args, below, meth, c, A, nL, D, Q⟩ := φ
  obtain ⟨hx, hb, hr, hml, hown, hts, hlocks, hK, -⟩ := C
  obtain ⟨x1, x2, x3⟩ := hX
  intro H locs ws cells slots ls c1 c2 hI hP hD hS hl
  have hc := i32_clamp (a := j) hj.1 (by omega)
  have hkk := kk H locs ws cells slots ls c1 c2 hI hP hD hS hl
  have hv : vi (sc xs j) = .int (xs (Int32.ofInt j).toNatClampNeg) := by
    rw [hc]
    exact vi_toInt _
  rw [hv] at hkk
  exact va_sld hx hb x1 x2 x3 hS (vp_in_iff.mpr (by rw [Int32.toInt_ofInt_of_le (by omega) (by omega)]; exact hj)) hd hkk
theorem x_slen (C : Cx φ cc own rt cy) (hX : SX φ bs Ls xs) (hd : decode cc pc = .ok (.arraylength, 1)) (kk : X φ I k n (pc + 1) L (vi (Ls : Int) :: st)) : X φ I k n pc L (vr (some bs) :: st) := by
  obtain ⟨p, l, e, R, s, m, args, below, meth, c, A, nL, D, Q⟩ := φ
  obtain ⟨hx, hb, hr, hml, hown, hts, hlocks, hK, -⟩ := C
  obtain ⟨x1, x2, x3⟩ := hX
  intro H locs ws cells slots ls c1 c2 hI hP hD hS hl
  have hkk := kk H locs ws cells slots ls c1 c2 hI hP hD hS hl
  have hv : vi (Ls : Int) = .int (Int32.ofNat Ls) := by
    unfold vi
    rw [Int32.ofInt_eq_ofNat]
  rw [hv] at hkk
  exact va_slen hx hb x1 x2 x3 hS hd hkk
end LawRows
/-- the law's contract of a method that reads the script -/
def CtC (l : Launch) (D : va_G) (cy : CY) (y : MethodName) (w0 : Cond) (fr lo mc ms : Nat) {σ : Type} (I : σ → va_W → Prop) (as : List Value) (x : σ) (Post : Except String (Option Value) → σ → Prop) (bs Ls : Nat) (xs : Nat → Int32) : Prop :=
  ∀ (sz : Nat) (ws : va_W), I x ws → vx_Met l y (w0 :: wsL_law) { frames := fr, cells := mc, slots := ms, locals := lo } (fun a U => CtPre D cy as ws sz a U ∧ va_X bs Ls xs U U.heap ∧ bs < U.heap.size ∧ ¬ va_A ws sz bs) (CtQ D I Post ws sz) (CtX D I Post ws sz) mc ms (va_A ws sz)
theorem CtC.of1 {l : Launch} {D : va_G} {cy : CY} {y : MethodName} {b : ByteArray} {maxL : Nat} {rt : Option FieldType} {fr lo mc ms : Nat} {σ : Type} {I : σ → va_W → Prop} {as : List Value} {x : σ} {Post : Except String (Option Value) → σ → Prop} {own : String} {bs Ls : Nat} {xs : Nat → Int32}
    (hst : l.stackTraces = false) (hy : plainName y.cls = true) (hown : y.cls = own) (hlen : as.length ≤ maxL) (hcat : ∀ v ∈ as, v.category = 1)
    (body : ∀ φ : Fx, Cx φ b own rt cy → RetOK φ I Post mc ms → nLof φ = maxL → ROf φ = { frames := fr, cells := mc, slots := ms, locals := lo } → lOf φ = l → DOf φ = D → SX φ bs Ls xs → X φ (I x) 0 0 0 (args1 0 as) []) :
    CtC l D cy y (Cond.code y b maxL rt) fr lo mc ms I as x Post bs Ls xs := by
  intro sz ws hI
  refine vx_ofW (cc := b) (maxL := maxL) (ret := rt) hy rfl ?_
  intro p e s m args below meth c s₁ B hml ht hv
  obtain ⟨⟨rfl, hsz, hP, hK, hD0, hE⟩, x1, x2, x3⟩ := hv
  have hts := atoms_spec (ws := Cond.code y b maxL rt :: wsL_law) B.pre
  have hownc : s.vm.findClass own = some m.cls := by rw [← hown]; exact findClass_of_methodNamed B.named
  have hbody := body (p, l, e, _, s, m, as.toArray, below, meth, c, va_A ws sz, maxL, D, vx_MQ below (CtQ D I Post ws sz) (CtX D I Post ws sz) as.toArray s mc ms (va_A ws sz))
    ⟨B.exec, B.bytes, B.returns, hml, hownc, fun w hw => hts w (List.mem_cons_of_mem _ hw), B.notSynchronized, hK, fun q hq => Or.inr (by rw [← hsz]; exact hq), hst, hE⟩
    ⟨ht, ws, sz, hsz, rfl, rfl⟩ rfl rfl rfl rfl ⟨x1, x2, x3⟩
  have hl := lv_entry as (n := maxL) (by rw [lg_sl1 as hcat]; exact hlen)
  rw [lv_args1 as 0 hcat] at hl
  rw [lg_entry_eq]
  exact hbody s.heap [] ws 0 0 _ (Nat.le_refl _) (Nat.le_refl _) hI hP hD0.self va_S.rf ⟨hl.1, hl.2.1, fun i v hv => ⟨hl.2.2 _ (lk_mem _ _ _ hv), args1_cat as 0 hcat _ (lk_mem _ _ _ hv)⟩⟩
section CallC
variable {φ : Fx} {k n pc : Nat} {L : List (Nat × Value)} {st0 rest : List Value} {cc : ByteArray} {own : String} {ret : Option FieldType} {cy : CY} {R0 : Room} {σ : Type} {I : σ → va_W → Prop} {Post : Except String (Option Value) → σ → Prop} {x : σ} {y : MethodName} {b : ByteArray} {maxL : Nat} {rt : Option FieldType} {np idx fr lo mc ms : Nat} {as : List Value} {bs Ls : Nat} {xs : Nat → Int32}
theorem x_callC (C : Cx φ cc own ret cy) (hX : SX φ bs Ls xs) (hR0 : ROf φ = R0) (hB : CB y b maxL rt np) (hV : Cond.static y ∈ wsL_law) (hlink : Cond.methodLink own idx y ∈ wsL_law)
    (hM : CtC (lOf φ) (DOf φ) cy y (Cond.code y b maxL rt) fr lo mc ms I as x Post bs Ls xs)
    (hlen : as.length = np) (hst : rest.length ≤ 4) (hst0 : st0 = as.reverse ++ rest) (hd : decode cc pc = .ok (.invokestatic idx, 3)) (hroom : fr + 1 ≤ R0.frames ∧ 8 + (maxL + 11) + lo ≤ R0.locals) (hcell : k + mc ≤ R0.cells ∧ n + ms ≤ R0.slots)
    (kx : ∀ E x', Post (.error E) x' → XT φ (I x') (k + mc) (n + ms) pc L E) (kk : ∀ r x', Post (.ok r) x' → X φ (I x') (k + mc) (n + ms) (pc + 3) L (r.toList ++ rest)) : X φ (I x) k n pc L st0 := by
  obtain ⟨p, l, e, R, s, m, args, below, meth, c, A, nL, D, Q⟩ := φ
  obtain ⟨hx, hb, hr, hml, hown, hts, hlocks, hK, hA, hstk, hE⟩ := C
  subst hst0
  have hR : R = R0 := hR0
  subst hR
  obtain ⟨x1, x2, x3⟩ := hX
  intro H locs ws cells slots ls c1 c2 hI hP hD hS hl
  have hgood : GoodIn wsL_law (va_wsS own idx y (Cond.code y b maxL rt :: wsL_law)) := goodIn_sub (fun w hw => by
    rcases List.mem_append.mp hw with h | h
    · simp only [List.mem_cons, List.not_mem_nil, or_false] at h
      rcases h with rfl | rfl | rfl
      · exact hlink
      · exact hV
      · exact hB.2.1
    · rcases List.mem_cons.mp h with rfl | h
      · exact hB.1
      · exact h) (List.all_eq_true.mpr fun w hw => by
    rcases List.mem_append.mp hw with h | h
    · simp only [List.mem_cons, List.not_mem_nil, or_false] at h
      rcases h with rfl | rfl | rfl
      · exact ugood1 _ hlink
      · exact ugood1 _ hV
      · exact ugood1 _ hB.2.1
    · rcases List.mem_cons.mp h with rfl | h
      · exact ugood1 _ hB.1
      · exact ugood1 _ h)
  have hsub := va_A_of hD hS hA
  have hbl : FrameBlind (fun a U => CtPre D cy as ws H.size a U ∧ va_X bs Ls xs U U.heap ∧ bs < U.heap.size ∧ ¬ va_A ws H.size bs) := fun a U g mk q => by
    obtain ⟨q0, q1, q2, q3⟩ := q
    exact ⟨CtPre.blind a U g mk q0, va_X.moved (u := U) (U := U.calling g mk a) (Vm.Alike.refl U.vm) q1, q2, q3⟩
  have hgo : ∀ U : State, U.heap = H → s.WarmedH U.vm → CtPre D cy as ws H.size as.toArray U ∧ va_X bs Ls xs U U.heap ∧ bs < U.heap.size ∧ ¬ va_A ws H.size bs := fun U hU hW =>
    ⟨CtPre.start hP hD hS hA hK hE U hU hW, by rw [hU]; exact (x1.kept (hS.2.1 bs x2 x3)).moved hW.alike, by rw [hU]; exact Nat.lt_of_lt_of_le x2 hS.1, fun q => x3 (hsub bs q)⟩
  refine X_after (vx_runS (cc := cc) (As := as) (rest := rest) (index := idx) (own := own) (nL := nL) ⟨hx, hb, hml, hown, hts⟩ (hM H.size ws hI) (va_cwS np hts hgood rfl rfl rfl ⟨hB.2.2.1, hB.2.2.2.1, hB.2.2.2.2⟩ hroom) ⟨hbl, hgo⟩ rfl hlen hl.1 rfl (lv_room (Nat.le_trans (cats_le rest) (by omega))) hd ⟨by omega, by omega⟩) hS hsub c1 c2 hl kx kk
end CallC

/-! THE CLAIM OUT OF ONE WALK OF THE LAW'S BODY. Your part is whole_start (and what it stands on); all else here is the same for every law, but numbers. -/
def R_law : String := "VisitorLoomLaw"
def lw_P (b : Addr) (xs : List Int32) (args : Array Value) (s : State) : Prop := args = #[.ref b] ∧ s.IntsAt b xs ∧ xs.length ≤ 3584 ∧ (Jvm.Cond.and given_1 narrow_1).before args s = true
def lw_Q (_ : Array Value) (s : State) (o : Outcome) (t : State) : Prop := o = .returned (some (.int 1)) ∧ Framed s o t [] 601024 7293034
def lw_Z (below : List Frame) (a : Array Value) (s : State) : State → Prop := fun t => ∃ o, t.status = .running ∧ Ended t below o ∧ lw_Q a s o t
/-- the law's own end, with 1 on the stack, nothing written that was there before, its room as the claim has it -/
theorem lw_ret {p : Program} {l : Launch} {e : Env} {s : State} {m : MethodId} {below : List Frame} {meth : Method} {c : Code} {b : Nat} (hx : p.tables.exec = Jvm.exec) (hb : c.code = code) (hr : meth.sig.returnType = ret) (hlocks : meth.locks = false) {pc : Nat} {H : Heap} {ls : Array Slot} (hdg : decode code pc = .ok (.ireturn, 1)) : W p l e room_1 s m #[Value.ref b] below meth c H [] 601024 7293034 (lw_Z below #[Value.ref b] s) (F0 m pc ls [.int 1]) := by
  intro T hT X
  obtain ⟨fs, hret, hrun, hended, hW, hframe⟩ := X.leave (v := some (.int 1)) (hlocks := hlocks) (fun h => by rw [hr] at h; cases h)
  have hmeth' : T.vm.method? m = some meth := X.method'
  refine ⟨T.setFrames fs, ?_, .returned (some (.int 1)), hrun, hended, rfl, ⟨_, rfl⟩, hW, hframe⟩
  jvm_step X.here [X.here.top, hx, hb, hdg, hmeth', hr, ret, narrow_b1]
  (try refine ⟨rfl, ?_⟩); (try refine ⟨rfl, ?_⟩)
  first | (intro acts; rw [hret _ acts rfl rfl rfl]) | rw [hret _ _ rfl rfl rfl]
  exact Steps.refl _
/-- what holds at the law's entry: the machine, the code, the tables' words (any of lw_tbl by 'hts w (by decide +kernel)'), the script of L ints xs at the cell b, what the Statement gives of the start (any of its parts by flat_of_before) -/
def lw_At (p : Program) (s : State) (m : MethodId) (meth : Method) (c : Code) (b L : Nat) (xs : Nat → Int32) : Prop :=
  p.tables.exec = Jvm.exec ∧ c.code = code ∧ meth.sig.returnType = ret ∧ c.maxLocals = 7 ∧ s.vm.findClass R_law = some m.cls ∧ (∀ w ∈ lw_tbl, w.before #[Value.ref b] s = true) ∧ va_X b L xs s s.heap ∧ b < s.heap.size ∧ meth.locks = false ∧ (Jvm.Cond.and given_1 narrow_1).before #[Value.ref b] s = true
/-! The law's own rows -/
def SX (φ : Fx) (bs Ls : Nat) (xs : Nat → Int32) : Prop := match φ with | (_, _, _, _, s, _, _, _, _, _, A, _, _, _) => va_X bs Ls xs s s.heap ∧ bs < s.heap.size ∧ ¬ A bs
def sc (xs : Nat → Int32) (j : Int) : Int := (xs j.toNat).toInt
theorem sc_rng (xs : Nat → Int32) (j : Int) : -2147483648 ≤ sc xs j ∧ sc xs j ≤ 2147483647 := i32_range _
theorem Cx.st {φ : Fx} {cc : ByteArray} {own : String} {ret : Option FieldType} {cy : CY} (C : Cx φ cc own ret cy) : (lOf φ).stackTraces = false := by
  obtain ⟨p, l, e, R, s, m, args, below, meth, c, A, nL, D, Q⟩ := φ
  obtain ⟨hx, hb, hr, hml, hown, hts, hlocks, hK, hA, hstk, hE⟩ := C
  exact hstk
def LawRet (φ : Fx) : Prop := match φ with | (_, _, _, R, s, _, args, below, _, _, A, _, _, Q) => R = room_1 ∧ ∃ bs : Nat, args = #[Value.ref bs] ∧ A = (fun q : Nat => s.heap.size ≤ q) ∧ Q = lw_Z below #[Value.ref bs] s
section LawRows
variable {φ : Fx} {I : va_W → Prop} {k n pc : Nat} {L : List (Nat × Value)} {st : List Value} {cc : ByteArray} {own : String} {cy : CY} {bs Ls : Nat} {xs : Nat → Int32} {rt : Option FieldType}
theorem x_sld {j : Int} (C : Cx φ cc own rt cy) (hX : SX φ bs Ls xs) (hL : Ls ≤ 3584) (hj : 0 ≤ j ∧ j < Ls) (hd : decode cc pc = .ok (.iaload, 1)) (kk : X φ I k n (pc + 1) L (vi (sc xs j) :: st)) : X φ I k n pc L (vi j :: vr (some bs) :: st) := by
  obtain ⟨p, l, e, R, s, m, args, below, meth, c, A, nL, D, Q⟩ := φ
  obtain ⟨hx, hb, hr, hml, hown, hts, hlocks, hK, -⟩ := C
  obtain ⟨x1, x2, x3⟩ := hX
  intro H locs ws cells slots ls c1 c2 hI hP hD hS hl
  have hc := i32_clamp (a := j) hj.1 (by omega)
  have hkk := kk H locs ws cells slots ls c1 c2 hI hP hD hS hl
  have hv : vi (sc xs j) = .int (xs (Int32.ofInt j).toNatClampNeg) := by
    rw [hc]
    exact vi_toInt _
  rw [hv] at hkk
  exact va_sld hx hb x1 x2 x3 hS (vp_in_iff.mpr (by rw [Int32.toInt_ofInt_of_le (by omega) (by omega)]; exact hj)) hd hkk
theorem x_slen (C : Cx φ cc own rt cy) (hX : SX φ bs Ls xs) (hd : decode cc pc = .ok (.arraylength, 1)) (kk : X φ I k n (pc + 1) L (vi (Ls : Int) :: st)) : X φ I k n pc L (vr (some bs) :: st) := by
  obtain ⟨p, l, e, R, s, m, args, below, meth, c, A, nL, D, Q⟩ := φ
  obtain ⟨hx, hb, hr, hml, hown, hts, hlocks, hK, -⟩ := C
  obtain ⟨x1, x2, x3⟩ := hX
  intro H locs ws cells slots ls c1 c2 hI hP hD hS hl
  have hkk := kk H locs ws cells slots ls c1 c2 hI hP hD hS hl
  have hv : vi (Ls : Int) = .int (Int32.ofNat Ls) := by
    unfold vi
    rw [Int32.ofInt_eq_ofNat]
  rw [hv] at hkk
  exact va_slen hx hb x1 x2 x3 hS hd hkk
theorem x_eqS {off : Int} {tgt : Nat} {a : Int} (C : Cx φ cc own rt cy) (hd : decode cc pc = .ok (.if_icmp .eq off, 3)) (ht : (pc : Int) + off = (tgt : Int)) (kt : X φ I k n tgt L st) : X φ I k n pc L (vi a :: vi a :: st) := by
  obtain ⟨p, l, e, R, s, m, args, below, meth, c, A, nL, D, Q⟩ := φ
  obtain ⟨hx, hb9, -⟩ := C
  intro H locs ws cells slots ls c1 c2 hI hP hD hS hl
  exact lv_icmp_eq hx hb9 hd ht (fun _ => kt H locs ws cells slots ls c1 c2 hI hP hD hS hl) (fun h => absurd rfl h)
theorem x_tswIn {z df off : Int} {offs : Array Int} {len j tgt : Nat} (C : Cx φ cc own rt cy) (hd : decode cc pc = .ok (.tableswitch df 0 19 offs, len)) (hz : z = (j : Int)) (hj : j ≤ 19) (ho : offs[j]? = some off) (ht : (pc : Int) + off = (tgt : Int)) (kk : X φ I k n tgt L st) : X φ I k n pc L (vi z :: st) := by
  obtain ⟨p, l, e, R, s, m, args, below, meth, c, A, nL, D, Q⟩ := φ
  obtain ⟨hx, hb, -⟩ := C
  intro H locs ws cells slots ls c1 c2 hI hP hD hS hl
  have hzi : (Int32.ofInt z).toInt = z := Int32.toInt_ofInt_of_le (by omega) (by omega)
  refine lv_tableIn (off := off) (tgt := tgt) hx hb hd (by rw [hzi]; omega) (by rw [hzi]; omega) ?_ ht (kk H locs ws cells slots ls c1 c2 hI hP hD hS hl)
  rw [hzi, hz, show ((j : Int) - 0).toNat = j by omega]
  exact ho
theorem x_tswOut {z df : Int} {offs : Array Int} {len tgt : Nat} (C : Cx φ cc own rt cy) (hd : decode cc pc = .ok (.tableswitch df 0 19 offs, len)) (hz : 19 < z ∧ z ≤ 2147483647) (ht : (pc : Int) + df = (tgt : Int)) (kk : X φ I k n tgt L st) : X φ I k n pc L (vi z :: st) := by
  obtain ⟨p, l, e, R, s, m, args, below, meth, c, A, nL, D, Q⟩ := φ
  obtain ⟨hx, hb, -⟩ := C
  intro H locs ws cells slots ls c1 c2 hI hP hD hS hl
  have hzi : (Int32.ofInt z).toInt = z := Int32.toInt_ofInt_of_le (by omega) (by omega)
  exact lv_tableOut hx hb hd (Or.inr (by rw [hzi]; omega)) ht (kk H locs ws cells slots ls c1 c2 hI hP hD hS hl)
theorem x_lawret (C : Cx φ code R_law ret cy) (hR : LawRet φ) (hk : k ≤ 601024) (hn : n ≤ 7293034) (hd : decode code pc = .ok (.ireturn, 1)) : X φ I k n pc L [vi 1] := by
  obtain ⟨p, l, e, R, s, m, args, below, meth, c, A, nL, D, Q⟩ := φ
  obtain ⟨hx, hb, hr, hml, hown, hts, hlocks, -⟩ := C
  obtain ⟨rfl, bs, rfl, rfl, rfl⟩ := hR
  intro H locs ws cells slots ls c1 c2 hI hP hD hS hl
  refine va_forget (fun q hq => hS.2.2 q hq) ?_
  refine W.widen (k := 601024) (n := 7293034) (Nat.le_trans c1 hk) (Nat.le_trans c2 hn) ?_
  exact lw_ret hx hb hr hlocks hd
end LawRows
theorem and31 (a : Int) : 0 ≤ bOp (· &&& ·) a 31 ∧ bOp (· &&& ·) a 31 ≤ 31 := by
  show 0 ≤ (Int32.ofInt a &&& Int32.ofInt 31).toInt ∧ (Int32.ofInt a &&& Int32.ofInt 31).toInt ≤ 31
  generalize Int32.ofInt a = x
  have h1 : (Int32.ofInt 31).toBitVec = 31#32 := by decide +kernel
  have h2 : (x &&& Int32.ofInt 31).toBitVec = x.toBitVec &&& 31#32 := by rw [Int32.toBitVec_and, h1]
  have h3 : (x.toBitVec &&& 31#32).toNat ≤ 31 := by
    rw [BitVec.toNat_and]
    exact Nat.and_le_right
  have h4 : (x &&& Int32.ofInt 31).toInt = ((x.toBitVec &&& 31#32).toNat : Int) := by
    show (x &&& Int32.ofInt 31).toBitVec.toInt = _
    rw [h2, BitVec.toInt_eq_toNat_of_lt (by omega)]
  rw [h4]
  omega
theorem m0_z {k : Nat} (hk : k ≠ 1) (j : Int) : M0 k j = 0 := by simp [M0, mset, hk]
theorem m0_1 : M0 1 0 = 1440 := by simp [M0, mset]
theorem mi_0 : MI M0 := by
  refine ⟨by rw [m0_z (by decide)]; decide, by rw [m0_1]; decide, fun e e0 e1 => ?_, fun d d0 d1 => by rw [m0_z (by decide)]; decide, fun r r0 r1 => by rw [m0_z (by decide)]; decide, fun r k r0 r1 k0 k1 => ?_, by rw [m0_z (by decide)]; decide, fun g g0 g1 => ?_, by rw [m0_z (by decide)]; decide, fun k k0 k1 => by rw [m0_z (by decide)]; decide, fun k j hk => Or.inl (m0_z (by omega) j)⟩
  · rw [m0_z (by decide)] at e1; omega
  · rw [m0_z (by decide)] at k1; omega
  · rw [m0_z (by decide)] at g1; omega
/-- the object and the reference as they are made -/
theorem ini_rc {h : HS} {A : AD} (n : INI h A) : RC (cO A) h M0 := by
  obtain ⟨nv, nn, nl, ⟨n20, n21⟩, nM, ⟨n67, n68, n69, n70, n71⟩, n65, n66⟩ := n
  have z2 : M0 2 0 = 0 := m0_z (by decide) 0
  have z17 : M0 17 0 = 0 := m0_z (by decide) 0
  refine ⟨A, [], fun k => k, fun _ => 0, rfl, ⟨mi_0, fun k k0 k1 => ?_, fun d d0 d1 => ?_, fun e e0 e1 => by rw [z2] at e1; omega⟩, nv, ⟨fun k k0 k1 => ?_, fun a a0 a1 => ⟨⟨a0, Int.le_refl _⟩, Conn.rf _ _⟩, fun x y hxy => ?_⟩, ⟨⟨n20, n21⟩, List.Pairwise.nil, fun e => ?_⟩, fun k p k0 k1 p0 p1 => ?_, ⟨fun e e0 e1 => by rw [z2] at e1; omega, fun j _ _ => by rw [nM, m0_z (by decide)], by rw [n67, z17], by rw [n68, z2], by rw [n69, m0_z (by decide)], by rw [n70, m0_z (by decide)], by rw [n71, m0_1], fun j j0 j1 => by rw [m0_z (by decide)] at j1; omega⟩, ⟨?_, ?_, fun g g0 g1 => by rw [z17] at g1; omega⟩, ⟨nl, fun e e0 e1 => by rw [z2] at e1; omega, fun e u e0 e1 _ _ _ => by rw [z2] at e1; omega, fun e e0 e1 => by rw [z2] at e1; omega, fun e _ => m0_z (by decide) e, fun j _ => m0_z (by decide) j⟩⟩
  · obtain ⟨m1, m2, m3, m4, m5, -⟩ := nn k k0 k1
    exact ⟨m1, m2, m3, m4, m5⟩
  · obtain ⟨m1, m2, m3, m4, m5, m6, m7, m8, m9, m10⟩ := nn (10 + d) (by omega) (by omega)
    refine ⟨by rw [m8, m0_z (by decide)], by rw [m9, m0_z (by decide)], ?_⟩
    rw [m7]
    refine bw_0.cong (fun j hj => ?_)
    rw [m0_z (by decide)]
    constructor
    · intro q; exact q.elim
    · intro q; omega
  · obtain ⟨m1, m2, m3, m4, m5, m6, -⟩ := nn k k0 k1
    exact ⟨by rw [m6, if_pos rfl], k0, k1⟩
  · obtain ⟨e, he, -⟩ := hxy
    rw [z2] at he
    omega
  · rw [z2]
    constructor
    · intro q; cases q
    · intro q; omega
  · rw [m0_z (by decide)]
    exact (nn k k0 k1).2.2.2.2.2.2.2.2.2 p
  · rw [z17, n65]
    exact rfl
  · rw [z17, n66, if_pos rfl]
/-- the object beside the reference while that is made -/
def LW2 (cy : CY) (x : HS × va_W) (ws : va_W) : Prop := ∃ w1 : va_W, (w1 ++ x.2).Perm ws ∧ RepH cy x.1 w1
theorem Ct.inE {l : Launch} {D : va_G} {cy : CY} {y : MethodName} {w0 : Cond} {fr lo mc ms : Nat} {as : List Value} {V : va_W} {Post : Except String (Option Value) → va_W → Prop} (h : Ct l D cy y w0 fr lo mc ms IE as V Post) {hh : HS} : Ct l D cy y w0 fr lo mc ms (LW2 cy) as (hh, V) (fun r x => ∃ V', x = (hh, V') ∧ Post r V') := by
  refine Ct.view (Ct.perm (Ct.frame (fun w => RepH cy hh w) h)) ?_ ?_
  · rintro ws ⟨w1, hp, h1⟩
    exact ⟨V ++ w1, List.perm_append_comm.trans hp, V, w1, rfl, rfl, h1⟩
  · rintro r x' ws hpost ⟨wz, hp, w2, w1, rfl, h2, h1⟩
    have h2 : w2 = x' := h2
    subst h2
    exact ⟨(hh, w2), ⟨w2, rfl, hpost⟩, w1, List.perm_append_comm.trans hp, h1⟩
def hE : HS := (fun _ => 0, fun _ _ => 0, fun _ _ => none, fun _ => 0, fun _ _ => 0, fun _ _ => none)
theorem repE (cy : CY) : RepH cy hE [] := ⟨fun k a e h => by simp at h, fun a h => absurd rfl h⟩
abbrev fsM : List Value := [vi 0, vi 0, vi 0, vr none, vr none, vr none, vr none, vr none, vr none, vr none, vr none, vr none, vr none, vr none, vr none, vr none, vr none, vi 0, vr none, vr none, vr none, vr none, vr none, vr none, vi 0, vr none, vi 0, vr none]
section LawNew
variable {φ : Fx} {k n pc : Nat} {L : List (Nat × Value)} {st : List Value} {cc : ByteArray} {own : String} {cy : CY} {rt : Option FieldType} {R0 : Room}
theorem x_newM {h : HS} {idx : Nat} (C : Cx φ cc own rt cy) (hR0 : ROf φ = R0) (hcl : Cond.classLink own idx "VisitorLoomModel" ∈ wsL_law) (hins : Cond.instantiable "VisitorLoomModel" 28 ∈ wsL_law) (hini : Cond.initialized "VisitorLoomModel" ∈ wsL_law) (hcell : k + 1 ≤ R0.cells ∧ n + 28 ≤ R0.slots) (hd : decode cc pc = .ok (.new idx, 3)) (kk : ∀ q : Nat, X φ (LW2 cy (h, wMk q fsM [])) (k + 1) (n + 28) (pc + 3) L (vr (some q) :: st)) : X φ (RepH cy h) k n pc L st := by
  obtain ⟨p, l, e, R, s, m, args, below, meth, c, A, nL, D, Q⟩ := φ
  obtain ⟨hx, hb, hr, hml, hown, hts, hlocks, hK, hA, -⟩ := C
  have hR : R = R0 := hR0
  subst hR
  intro H locs ws cells slots ls c1 c2 hI hP hD hS hl
  refine va_new (D := D) (ci := 7) (fs := fsM) (C := RX7) (T := TX7) (N := 28) hx hb hts inlX7 tyX7 tyX7_ok hown (hts _ hcl) (hts _ hins) (hts _ hini) hK hP hD hS hA rfl (fun j hj => ?_) (by omega) (by omega) hd (fun q H1 hP1 hD1 hS1 => ?_)
  · rcases (show j = 0 ∨ j = 1 ∨ j = 2 ∨ j = 3 ∨ j = 4 ∨ j = 5 ∨ j = 6 ∨ j = 7 ∨ j = 8 ∨ j = 9 ∨ j = 10 ∨ j = 11 ∨ j = 12 ∨ j = 13 ∨ j = 14 ∨ j = 15 ∨ j = 16 ∨ j = 17 ∨ j = 18 ∨ j = 19 ∨ j = 20 ∨ j = 21 ∨ j = 22 ∨ j = 23 ∨ j = 24 ∨ j = 25 ∨ j = 26 ∨ j = 27 by omega) with rfl | rfl | rfl | rfl | rfl | rfl | rfl | rfl | rfl | rfl | rfl | rfl | rfl | rfl | rfl | rfl | rfl | rfl | rfl | rfl | rfl | rfl | rfl | rfl | rfl | rfl | rfl | rfl <;> rfl
  · exact kk q H1 locs _ _ _ ls (Nat.add_le_add_right c1 1) (Nat.add_le_add_right c2 28) ⟨ws, List.Perm.refl _, hI⟩ hP1 hD1 hS1 hl
theorem x_newL {h : HS} {b : Nat → Nat} (C : Cx φ cc own rt cy) (hR0 : ROf φ = R0) (hcell : k + 1 ≤ R0.cells ∧ n + 1 ≤ R0.slots) (hd : decode cc pc = .ok (.newarray .long, 2)) (kk : ∀ q : Nat, X φ (LW3 cy b q (h, (0, M0), 0)) (k + 1) (n + 1) (pc + 2) L (vr (some q) :: st)) : X φ (LW2 cy (h, wsM cy b 0 M0)) k n pc L (vi 1 :: st) := by
  obtain ⟨p, l, e, R, s, m, args, below, meth, c, A, nL, D, Q⟩ := φ
  obtain ⟨hx, hb, hr, hml, hown, hts, hlocks, hK, hA, -⟩ := C
  have hR : R = R0 := hR0
  subst hR
  intro H locs ws cells slots ls c1 c2 hI hP hD hS hl
  refine va_newa (atype := .long) (ty := .long) (N' := 1) (a0 := (1, .inr (.inl (fun _ => 0)))) hx hb (hts _ u0_6) rfl hK hP hD hS hA (fun cA => rfl) (nneg (z := 1) (N := 1) rfl (by decide)) (nclamp (z := 1) (N := 1) rfl (by decide)) (by decide) (by omega) (by omega) hd (fun q cA H1 hK1 hP1 hD1 hS1 => ?_)
  have hc := ca_eq hK1 4 rfl
  subst hc
  obtain ⟨w1, hp, h1⟩ := hI
  refine kk q H1 locs _ _ _ ls (Nat.add_le_add_right c1 1) (Nat.add_le_add_right c2 1) ⟨w1, wsM cy b 0 M0, [(q, .inl (cy.2.2.2.2, 1, .inr (.inl (fun _ => 0))))], ?_, h1, rfl, ⟨fun _ => 0, rfl, rfl⟩⟩ hP1 hD1 hS1 hl
  rw [← List.append_assoc]
  exact hp.append_right _
end LawNew

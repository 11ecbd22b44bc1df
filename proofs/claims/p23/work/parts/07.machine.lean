/-! A layer over the kit's W: ints as Ints, locals by lookup, the heap as a property of the world's cells -/
def vi (z : Int) : Value := .int (Int32.ofInt z)
def vr (o : Option Nat) : Value := va_rf o
theorem vi_cat (z : Int) : (vi z).category = 1 := rfl
theorem vr_cat (o : Option Nat) : (vr o).category = 1 := by cases o <;> rfl
def lk : List (Nat × Value) → Nat → Option Value
  | [], _ => none
  | (j, v) :: t, i => cond (Nat.beq j i) (some v) (lk t i)
def ldd : List (Nat × Value) → List (Nat × Value)
  | [] => []
  | (j, v) :: t => (j, v) :: (ldd t).filter (fun q => !(q.1 == j))
theorem lk_cons_eq (i : Nat) (v : Value) (L : List (Nat × Value)) : lk ((i, v) :: L) i = some v := by
  simp [lk]
theorem lk_cons_ne {i j : Nat} (h : j ≠ i) (v : Value) (L : List (Nat × Value)) : lk ((j, v) :: L) i = lk L i := by
  have : Nat.beq j i = false := by
    cases hb : Nat.beq j i with
    | false => rfl
    | true => exact absurd (Nat.eq_of_beq_eq_true hb) h
  simp [lk, this]
theorem lk_ldd : ∀ (L : List (Nat × Value)) (i : Nat) (v : Value), (i, v) ∈ ldd L ↔ lk L i = some v := by
  intro L
  induction L with
  | nil => intro i v; simp [ldd, lk]
  | cons q t ih =>
    obtain ⟨j, w⟩ := q
    intro i v
    by_cases h : j = i
    · subst h
      rw [lk_cons_eq]
      simp [ldd]
      exact eq_comm
    · rw [lk_cons_ne h]
      simp [ldd, List.mem_filter, ih]
      constructor
      · rintro (⟨h1, -⟩ | ⟨h1, -⟩)
        · exact absurd h1.symm h
        · exact h1
      · intro h1
        exact Or.inr ⟨h1, fun e => h e.symm⟩
def lh (ls : Array Slot) (nL : Nat) (L : List (Nat × Value)) : Prop := ls.size = nL ∧ lv_wf ls ∧ ∀ (i : Nat) (v : Value), lk L i = some v → ls[i]? = some (.val v) ∧ v.category = 1
theorem lh.has {ls : Array Slot} {nL : Nat} {L : List (Nat × Value)} (h : lh ls nL L) : lv_has ls nL (ldd L) := ⟨h.1, h.2.1, fun q hq => (h.2.2 q.1 q.2 ((lk_ldd L q.1 q.2).mp hq)).1⟩
theorem lh.of {ls ls' : Array Slot} {nL i : Nat} {v : Value} {L : List (Nat × Value)} (h : lh ls nL L) (hc : v.category = 1) (h' : lv_has ls' nL ((i, v) :: (ldd L).filter (fun q => !(q.1 == i) && !(q.1 + 1 == i && q.2.category == 2)))) : lh ls' nL ((i, v) :: L) := by
  refine ⟨h'.1, h'.2.1, fun j w hj => ?_⟩
  by_cases hji : i = j
  · subst hji
    rw [lk_cons_eq] at hj
    cases hj
    exact ⟨h'.2.2 _ List.mem_cons_self, hc⟩
  · rw [lk_cons_ne hji] at hj
    have h1 := h.2.2 j w hj
    refine ⟨h'.2.2 (j, w) (List.mem_cons_of_mem _ (List.mem_filter.mpr ⟨(lk_ldd L j w).mpr hj, ?_⟩)), h1.2⟩
    have hn : j ≠ i := fun e => hji e.symm
    simp [hn, h1.2]
def lsub (L : List (Nat × Value)) : List (Nat × Value) → Prop
  | [] => True
  | (i, v) :: t => lk L i = some v ∧ lsub L t
theorem lsub.lk {L : List (Nat × Value)} : ∀ {L' : List (Nat × Value)}, lsub L L' → ∀ (i : Nat) (v : Value), lk L' i = some v → lk L i = some v := by
  intro L'
  induction L' with
  | nil => intro _ i v h; cases h
  | cons q t ih =>
    obtain ⟨j, w⟩ := q
    intro h i v hv
    by_cases hji : j = i
    · subst hji
      rw [lk_cons_eq] at hv
      cases hv
      exact h.1
    · rw [lk_cons_ne hji] at hv
      exact ih h.2 i v hv
theorem lh.sub {ls : Array Slot} {nL : Nat} {L L' : List (Nat × Value)} (h : lh ls nL L) (hs : lsub L L') : lh ls nL L' := ⟨h.1, h.2.1, fun i v hv => h.2.2 i v (hs.lk i v hv)⟩
/-- all that is fixed while a method's body runs -/
abbrev Fx : Type := Program × Launch × Env × Room × State × MethodId × Array Value × List Frame × Method × Code × (Nat → Prop) × Nat × va_G × (State → Prop)
abbrev CY : Type := ClassId × ClassId × ClassId × ClassId × ClassId
def TYS (cy : CY) : List (ClassId × FieldType) := [(cy.1, .int), (cy.2.1, .boolean), (cy.2.2.1, .object "VisitorLoom$Change"), (cy.2.2.2.1, .object "VisitorLoom$Node"), (cy.2.2.2.2, .long)]
def STRS : List (Nat × String) := [(60, "an argument is out of its range"), (70, "as many events as can be were taken"), (85, "device or skew is out of its range"), (112, "device is out of its range"), (120, "device or account is out of its range"), (136, "node, purpose or from is out of its range"), (142, "as many changes as can be were told"), (151, "purpose, kind, least or days is out of its range"), (156, "there are as many groups as can be"), (256, "node is out of its range"), (188, "minutes is out of its range"), (191, "now would be above the latest minute"), (194, "node or kind is out of its range"), (202, "there is no such place"), (216, "node or what is out of its range"), (218, "there is no such session")]
/-- the links of private members of nest mates -/
def NWS : List Cond := [Cond.methodLinkNest RX6 24 yX2_init RX6, Cond.methodLinkNest RX6 31 yX5_init RX6, Cond.methodLinkNest RX4 40 yX6_isPurpose RX6]
/-- throws that pass a row that names another class -/
def NCS : List (String × String) := []
/-- what stands outside the world's cells and is read when something is thrown or an array of references is made -/
def EN (A : Nat → Prop) (U : State) (H : Heap) : Prop := vx_Zq Bundle.tN "UNASSIGNED_STACK" Bundle.steD A U H ∧ vx_Zq Bundle.tN "SUPPRESSED_SENTINEL" Bundle.listD A U H ∧ (∀ q ∈ STRS, ∃ a : Nat, vk_R RX6 q.1 q.2 a U) ∧ va_AO "VisitorLoom$Change" U ∧ va_AO "VisitorLoom$Node" U ∧ (∀ w ∈ NWS, va_Nw w U) ∧ ∀ q ∈ NCS, va_Nc q.1 q.2 U
def X (φ : Fx) (I : va_W → Prop) (k n pc : Nat) (L : List (Nat × Value)) (st : List Value) : Prop :=
  match φ with
  | (p, l, e, R, s, m, args, below, meth, c, A, nL, D, Q) => ∀ (H : Heap) (locs : List Loc) (ws : va_W) (cells slots : Nat) (ls : Array Slot), cells ≤ k → slots ≤ n → I ws → va_P D vwCl ws H → va_D A ws → va_S A s.heap H locs → lh ls nL L → W p l e R s m args below meth c H locs cells slots Q (F0 m pc ls st)
def Cx (φ : Fx) (cc : ByteArray) (own : String) (ret : Option FieldType) (cy : CY) : Prop :=
  match φ with
  | (p, l, _, _, s, m, args, _, meth, c, A, nL, D, _) => p.tables.exec = Jvm.exec ∧ c.code = cc ∧ meth.sig.returnType = ret ∧ c.maxLocals = nL ∧ s.vm.findClass own = some m.cls ∧ (∀ w ∈ wsL_law, w.before args s = true) ∧ meth.locks = false ∧ va_K D vwCl (TYS cy) s ∧ (∀ q, s.heap.size ≤ q → A q) ∧ l.stackTraces = false ∧ EN A s s.heap
def nLof (φ : Fx) : Nat := match φ with | (_, _, _, _, _, _, _, _, _, _, _, nL, _, _) => nL
section Rules
variable {φ : Fx} {I : va_W → Prop} {k n pc : Nat} {L : List (Nat × Value)} {st : List Value} {cc : ByteArray} {own : String} {ret : Option FieldType} {cy : CY}
theorem X.mono {k' n' : Nat} (h1 : k ≤ k') (h2 : n ≤ n') (kk : X φ I k' n' pc L st) : X φ I k n pc L st := by
  obtain ⟨p, l, e, R, s, m, args, below, meth, c, A, nL, D, Q⟩ := φ
  intro H locs ws cells slots ls c1 c2
  exact kk H locs ws cells slots ls (Nat.le_trans c1 h1) (Nat.le_trans c2 h2)
theorem X.loc {L' : List (Nat × Value)} (hs : lsub L L') (kk : X φ I k n pc L' st) : X φ I k n pc L st := by
  obtain ⟨p, l, e, R, s, m, args, below, meth, c, A, nL, D, Q⟩ := φ
  intro H locs ws cells slots ls c1 c2 hI hP hD hS hl
  exact kk H locs ws cells slots ls c1 c2 hI hP hD hS (hl.sub hs)
theorem X.world {I' : va_W → Prop} (hs : ∀ ws, I ws → I' ws) (kk : X φ I' k n pc L st) : X φ I k n pc L st := by
  obtain ⟨p, l, e, R, s, m, args, below, meth, c, A, nL, D, Q⟩ := φ
  intro H locs ws cells slots ls c1 c2 hI
  exact kk H locs ws cells slots ls c1 c2 (hs ws hI)
theorem X.stk {st' : List Value} (h : st = st') (kk : X φ I k n pc L st') : X φ I k n pc L st := h ▸ kk
theorem i32_lt {a b : Int} (ha : -2147483648 ≤ a ∧ a ≤ 2147483647) (hb : -2147483648 ≤ b ∧ b ≤ 2147483647) : Int32.ofInt a < Int32.ofInt b ↔ a < b := by
  rw [Int32.lt_iff_toInt_lt, Int32.toInt_ofInt_of_le (by omega) (by omega), Int32.toInt_ofInt_of_le (by omega) (by omega)]
theorem i32_le {a b : Int} (ha : -2147483648 ≤ a ∧ a ≤ 2147483647) (hb : -2147483648 ≤ b ∧ b ≤ 2147483647) : Int32.ofInt a ≤ Int32.ofInt b ↔ a ≤ b := by
  rw [Int32.le_iff_toInt_le, Int32.toInt_ofInt_of_le (by omega) (by omega), Int32.toInt_ofInt_of_le (by omega) (by omega)]
theorem i32_eq {a b : Int} (ha : -2147483648 ≤ a ∧ a ≤ 2147483647) (hb : -2147483648 ≤ b ∧ b ≤ 2147483647) : Int32.ofInt a = Int32.ofInt b ↔ a = b := by
  constructor
  · intro h
    have h2 := congrArg Int32.toInt h
    rwa [Int32.toInt_ofInt_of_le (by omega) (by omega), Int32.toInt_ofInt_of_le (by omega) (by omega)] at h2
  · intro h; rw [h]
theorem i32_clamp {a : Int} (h0 : 0 ≤ a) (ha : a ≤ 2147483647) : (Int32.ofInt a).toNatClampNeg = a.toNat := by
  exact Int32.toNatClampNeg_ofInt_of_le (by omega) (by omega)
theorem i32_range (x : Int32) : -2147483648 ≤ x.toInt ∧ x.toInt ≤ 2147483647 := by
  have h1 := x.minValue_le_toInt
  have h2 := x.toInt_le
  exact ⟨h1, h2⟩
theorem vi_toInt (x : Int32) : vi x.toInt = .int x := by
  unfold vi
  rw [Int32.ofInt_toInt]
theorem x_nop_frame (C : Cx φ cc own ret cy) : Cx φ cc own ret cy := C
-- constants and locals
theorem x_iconst {z : Int} (C : Cx φ cc own ret cy) (hd : decode cc pc = .ok (.iconst z, 1)) (kk : X φ I k n (pc + 1) L (vi z :: st)) : X φ I k n pc L st := by
  obtain ⟨p, l, e, R, s, m, args, below, meth, c, A, nL, D, Q⟩ := φ
  obtain ⟨hx, hb, -⟩ := C
  intro H locs ws cells slots ls c1 c2 hI hP hD hS hl
  exact lv_iconst hx hb hd rfl (kk H locs ws cells slots ls c1 c2 hI hP hD hS hl)
theorem x_bipush {z : Int} (C : Cx φ cc own ret cy) (hd : decode cc pc = .ok (.bipush z, 2)) (hz : (Int8.ofInt z).toInt32 = Int32.ofInt z) (kk : X φ I k n (pc + 2) L (vi z :: st)) : X φ I k n pc L st := by
  obtain ⟨p, l, e, R, s, m, args, below, meth, c, A, nL, D, Q⟩ := φ
  obtain ⟨hx, hb, -⟩ := C
  intro H locs ws cells slots ls c1 c2 hI hP hD hS hl
  exact lv_bipush hx hb hd hz (kk H locs ws cells slots ls c1 c2 hI hP hD hS hl)
theorem x_sipush {z : Int} (C : Cx φ cc own ret cy) (hd : decode cc pc = .ok (.sipush z, 3)) (hz : (Int16.ofInt z).toInt32 = Int32.ofInt z) (kk : X φ I k n (pc + 3) L (vi z :: st)) : X φ I k n pc L st := by
  obtain ⟨p, l, e, R, s, m, args, below, meth, c, A, nL, D, Q⟩ := φ
  obtain ⟨hx, hb, -⟩ := C
  intro H locs ws cells slots ls c1 c2 hI hP hD hS hl
  exact lv_sipush hx hb hd hz (kk H locs ws cells slots ls c1 c2 hI hP hD hS hl)
theorem x_ldc {z : Int} {ix : Nat} {v : Int32} (C : Cx φ cc own ret cy) (hw : Cond.constant own ix v ∈ wsL_law) (hv : v = Int32.ofInt z) (hd : decode cc pc = .ok (.ldc ix, 2)) (kk : X φ I k n (pc + 2) L (vi z :: st)) : X φ I k n pc L st := by
  obtain ⟨p, l, e, R, s, m, args, below, meth, c, A, nL, D, Q⟩ := φ
  obtain ⟨hx, hb, hr, hml, hown, hts, -⟩ := C
  intro H locs ws cells slots ls c1 c2 hI hP hD hS hl
  subst hv
  exact lv_ldc hx hb hown (hts _ hw) hd (kk H locs ws cells slots ls c1 c2 hI hP hD hS hl)
theorem x_null (C : Cx φ cc own ret cy) (hd : decode cc pc = .ok (.aconst_null, 1)) (kk : X φ I k n (pc + 1) L (vr none :: st)) : X φ I k n pc L st := by
  obtain ⟨p, l, e, R, s, m, args, below, meth, c, A, nL, D, Q⟩ := φ
  obtain ⟨hx, hb, -⟩ := C
  intro H locs ws cells slots ls c1 c2 hI hP hD hS hl
  exact lv_null hx hb hd (kk H locs ws cells slots ls c1 c2 hI hP hD hS hl)
theorem x_iload_n {z : Int} {f : Fin 4} {i : Nat} (C : Cx φ cc own ret cy) (hd : decode cc pc = .ok (.iload_n f, 1)) (hi : (f : Nat) = i) (hk : lk L i = some (vi z)) (kk : X φ I k n (pc + 1) L (vi z :: st)) : X φ I k n pc L st := by
  obtain ⟨p, l, e, R, s, m, args, below, meth, c, A, nL, D, Q⟩ := φ
  obtain ⟨hx, hb, -⟩ := C
  intro H locs ws cells slots ls c1 c2 hI hP hD hS hl
  exact lv_iload_n hx hb hd hi (hl.2.2 _ _ hk).1 (kk H locs ws cells slots ls c1 c2 hI hP hD hS hl)
theorem x_iload {z : Int} {i : Nat} (C : Cx φ cc own ret cy) (hd : decode cc pc = .ok (.iload i, 2)) (hk : lk L i = some (vi z)) (kk : X φ I k n (pc + 2) L (vi z :: st)) : X φ I k n pc L st := by
  obtain ⟨p, l, e, R, s, m, args, below, meth, c, A, nL, D, Q⟩ := φ
  obtain ⟨hx, hb, -⟩ := C
  intro H locs ws cells slots ls c1 c2 hI hP hD hS hl
  exact lv_iload hx hb hd (hl.2.2 _ _ hk).1 (kk H locs ws cells slots ls c1 c2 hI hP hD hS hl)
theorem x_aload_n {o : Option Nat} {f : Fin 4} {i : Nat} (C : Cx φ cc own ret cy) (hd : decode cc pc = .ok (.aload_n f, 1)) (hi : (f : Nat) = i) (hk : lk L i = some (vr o)) (kk : X φ I k n (pc + 1) L (vr o :: st)) : X φ I k n pc L st := by
  obtain ⟨p, l, e, R, s, m, args, below, meth, c, A, nL, D, Q⟩ := φ
  obtain ⟨hx, hb, -⟩ := C
  intro H locs ws cells slots ls c1 c2 hI hP hD hS hl
  cases o with
  | none => exact lv_aload_nN hx hb hd hi (hl.2.2 _ _ hk).1 (kk H locs ws cells slots ls c1 c2 hI hP hD hS hl)
  | some a => exact lv_aload_n hx hb hd hi (hl.2.2 _ _ hk).1 (kk H locs ws cells slots ls c1 c2 hI hP hD hS hl)
theorem x_aload {o : Option Nat} {i : Nat} (C : Cx φ cc own ret cy) (hd : decode cc pc = .ok (.aload i, 2)) (hk : lk L i = some (vr o)) (kk : X φ I k n (pc + 2) L (vr o :: st)) : X φ I k n pc L st := by
  obtain ⟨p, l, e, R, s, m, args, below, meth, c, A, nL, D, Q⟩ := φ
  obtain ⟨hx, hb, -⟩ := C
  intro H locs ws cells slots ls c1 c2 hI hP hD hS hl
  cases o with
  | none => exact lv_aloadN hx hb hd (hl.2.2 _ _ hk).1 (kk H locs ws cells slots ls c1 c2 hI hP hD hS hl)
  | some a => exact lv_aload hx hb hd (hl.2.2 _ _ hk).1 (kk H locs ws cells slots ls c1 c2 hI hP hD hS hl)
theorem x_istore_n {z : Int} {f : Fin 4} {i : Nat} (C : Cx φ cc own ret cy) (hd : decode cc pc = .ok (.istore_n f, 1)) (hi : (f : Nat) = i) (hn : i < nLof φ) (kk : X φ I k n (pc + 1) ((i, vi z) :: L) st) : X φ I k n pc L (vi z :: st) := by
  obtain ⟨p, l, e, R, s, m, args, below, meth, c, A, nL, D, Q⟩ := φ
  obtain ⟨hx, hb, -⟩ := C
  intro H locs ws cells slots ls c1 c2 hI hP hD hS hl
  exact lv_istore_n hx hb hd hi hl.has hn rfl (fun ls' hl' => kk H locs ws cells slots ls' c1 c2 hI hP hD hS (hl.of rfl hl'))
theorem x_istore {z : Int} {i : Nat} (C : Cx φ cc own ret cy) (hd : decode cc pc = .ok (.istore i, 2)) (hn : i < nLof φ) (kk : X φ I k n (pc + 2) ((i, vi z) :: L) st) : X φ I k n pc L (vi z :: st) := by
  obtain ⟨p, l, e, R, s, m, args, below, meth, c, A, nL, D, Q⟩ := φ
  obtain ⟨hx, hb, -⟩ := C
  intro H locs ws cells slots ls c1 c2 hI hP hD hS hl
  exact lv_istore hx hb hd hl.has hn rfl (fun ls' hl' => kk H locs ws cells slots ls' c1 c2 hI hP hD hS (hl.of rfl hl'))
theorem x_astore_n {o : Option Nat} {f : Fin 4} {i : Nat} (C : Cx φ cc own ret cy) (hd : decode cc pc = .ok (.astore_n f, 1)) (hi : (f : Nat) = i) (hn : i < nLof φ) (kk : X φ I k n (pc + 1) ((i, vr o) :: L) st) : X φ I k n pc L (vr o :: st) := by
  obtain ⟨p, l, e, R, s, m, args, below, meth, c, A, nL, D, Q⟩ := φ
  obtain ⟨hx, hb, -⟩ := C
  intro H locs ws cells slots ls c1 c2 hI hP hD hS hl
  cases o with
  | none => exact lv_astore_nN hx hb hd hi hl.has hn rfl (fun ls' hl' => kk H locs ws cells slots ls' c1 c2 hI hP hD hS (hl.of rfl hl'))
  | some a => exact lv_astore_n hx hb hd hi hl.has hn rfl (fun ls' hl' => kk H locs ws cells slots ls' c1 c2 hI hP hD hS (hl.of rfl hl'))
theorem x_astore {o : Option Nat} {i : Nat} (C : Cx φ cc own ret cy) (hd : decode cc pc = .ok (.astore i, 2)) (hn : i < nLof φ) (kk : X φ I k n (pc + 2) ((i, vr o) :: L) st) : X φ I k n pc L (vr o :: st) := by
  obtain ⟨p, l, e, R, s, m, args, below, meth, c, A, nL, D, Q⟩ := φ
  obtain ⟨hx, hb, -⟩ := C
  intro H locs ws cells slots ls c1 c2 hI hP hD hS hl
  cases o with
  | none => exact lv_astoreN hx hb hd hl.has hn rfl (fun ls' hl' => kk H locs ws cells slots ls' c1 c2 hI hP hD hS (hl.of rfl hl'))
  | some a => exact lv_astore hx hb hd hl.has hn rfl (fun ls' hl' => kk H locs ws cells slots ls' c1 c2 hI hP hD hS (hl.of rfl hl'))
theorem x_iinc {z d : Int} {i : Nat} (C : Cx φ cc own ret cy) (hd : decode cc pc = .ok (.iinc i d, 3)) (hn : i < nLof φ) (hk : lk L i = some (vi z)) (kk : X φ I k n (pc + 3) ((i, vi (z + d)) :: L) st) : X φ I k n pc L st := by
  obtain ⟨p, l, e, R, s, m, args, below, meth, c, A, nL, D, Q⟩ := φ
  obtain ⟨hx, hb, -⟩ := C
  intro H locs ws cells slots ls c1 c2 hI hP hD hS hl
  obtain ⟨j, hj⟩ := List.getElem?_of_mem ((lk_ldd L i (vi z)).mpr hk)
  exact lv_iinc hx hb hd hl.has hj (Int32.ofInt_add z d).symm hn rfl (fun ls' hl' => kk H locs ws cells slots ls' c1 c2 hI hP hD hS (hl.of (v := vi (z + d)) rfl hl'))
-- the stack
theorem x_dup {v : Value} (C : Cx φ cc own ret cy) (hd : decode cc pc = .ok (.dup, 1)) (hc : v.category = 1) (kk : X φ I k n (pc + 1) L (v :: v :: st)) : X φ I k n pc L (v :: st) := by
  obtain ⟨p, l, e, R, s, m, args, below, meth, c, A, nL, D, Q⟩ := φ
  obtain ⟨hx, hb, -⟩ := C
  intro H locs ws cells slots ls c1 c2 hI hP hD hS hl
  exact lv_dup hx hb hd hc (kk H locs ws cells slots ls c1 c2 hI hP hD hS hl)
theorem x_dup2 {v w : Value} (C : Cx φ cc own ret cy) (hd : decode cc pc = .ok (.dup2, 1)) (hc : v.category = 1) (hw : w.category = 1) (kk : X φ I k n (pc + 1) L (v :: w :: v :: w :: st)) : X φ I k n pc L (v :: w :: st) := by
  obtain ⟨p, l, e, R, s, m, args, below, meth, c, A, nL, D, Q⟩ := φ
  obtain ⟨hx, hb, -⟩ := C
  intro H locs ws cells slots ls c1 c2 hI hP hD hS hl
  exact lv_dup2_11 hx hb hd hc hw (kk H locs ws cells slots ls c1 c2 hI hP hD hS hl)
theorem x_pop {v : Value} (C : Cx φ cc own ret cy) (hd : decode cc pc = .ok (.pop, 1)) (hc : v.category = 1) (kk : X φ I k n (pc + 1) L st) : X φ I k n pc L (v :: st) := by
  obtain ⟨p, l, e, R, s, m, args, below, meth, c, A, nL, D, Q⟩ := φ
  obtain ⟨hx, hb, -⟩ := C
  intro H locs ws cells slots ls c1 c2 hI hP hD hS hl
  exact lv_pop hx hb hd hc (kk H locs ws cells slots ls c1 c2 hI hP hD hS hl)
-- arithmetic
theorem x_iadd {a b : Int} (C : Cx φ cc own ret cy) (hd : decode cc pc = .ok (.iadd, 1)) (kk : X φ I k n (pc + 1) L (vi (a + b) :: st)) : X φ I k n pc L (vi b :: vi a :: st) := by
  obtain ⟨p, l, e, R, s, m, args, below, meth, c, A, nL, D, Q⟩ := φ
  obtain ⟨hx, hb, -⟩ := C
  intro H locs ws cells slots ls c1 c2 hI hP hD hS hl
  refine lv_iadd hx hb hd ?_
  rw [← Int32.ofInt_add]
  exact kk H locs ws cells slots ls c1 c2 hI hP hD hS hl
theorem x_isub {a b : Int} (C : Cx φ cc own ret cy) (hd : decode cc pc = .ok (.isub, 1)) (kk : X φ I k n (pc + 1) L (vi (a - b) :: st)) : X φ I k n pc L (vi b :: vi a :: st) := by
  obtain ⟨p, l, e, R, s, m, args, below, meth, c, A, nL, D, Q⟩ := φ
  obtain ⟨hx, hb, -⟩ := C
  intro H locs ws cells slots ls c1 c2 hI hP hD hS hl
  refine lv_isub hx hb hd ?_
  rw [← Int32.ofInt_sub]
  exact kk H locs ws cells slots ls c1 c2 hI hP hD hS hl
theorem x_imul {a b : Int} (C : Cx φ cc own ret cy) (hd : decode cc pc = .ok (.imul, 1)) (kk : X φ I k n (pc + 1) L (vi (a * b) :: st)) : X φ I k n pc L (vi b :: vi a :: st) := by
  obtain ⟨p, l, e, R, s, m, args, below, meth, c, A, nL, D, Q⟩ := φ
  obtain ⟨hx, hb, -⟩ := C
  intro H locs ws cells slots ls c1 c2 hI hP hD hS hl
  refine lv_imul hx hb hd ?_
  rw [← Int32.ofInt_mul]
  exact kk H locs ws cells slots ls c1 c2 hI hP hD hS hl
theorem x_idiv {a b : Int} (C : Cx φ cc own ret cy) (hd : decode cc pc = .ok (.idiv, 1)) (ha : -2147483648 ≤ a ∧ a ≤ 2147483647) (hb0 : 0 < b ∧ b ≤ 2147483647) (kk : X φ I k n (pc + 1) L (vi (a.tdiv b) :: st)) : X φ I k n pc L (vi b :: vi a :: st) := by
  obtain ⟨p, l, e, R, s, m, args, below, meth, c, A, nL, D, Q⟩ := φ
  obtain ⟨hx, hb, -⟩ := C
  intro H locs ws cells slots ls c1 c2 hI hP hD hS hl
  refine lv_idiv hx hb hd ?_ ?_
  · intro h
    have h2 := (i32_eq (a := b) (b := 0) (by omega) (by omega)).mp h
    omega
  · rw [← Int32.ofInt_tdiv ha.1 ha.2 (Int.le_trans (by decide) (Int.le_of_lt hb0.1)) hb0.2]
    exact kk H locs ws cells slots ls c1 c2 hI hP hD hS hl
def bOp (f : Int32 → Int32 → Int32) (a b : Int) : Int := (f (Int32.ofInt a) (Int32.ofInt b)).toInt
theorem bOp_vi (f : Int32 → Int32 → Int32) (a b : Int) : vi (bOp f a b) = .int (f (Int32.ofInt a) (Int32.ofInt b)) := vi_toInt _
theorem x_iand {a b : Int} (C : Cx φ cc own ret cy) (hd : decode cc pc = .ok (.iand, 1)) (kk : X φ I k n (pc + 1) L (vi (bOp (· &&& ·) a b) :: st)) : X φ I k n pc L (vi b :: vi a :: st) := by
  obtain ⟨p, l, e, R, s, m, args, below, meth, c, A, nL, D, Q⟩ := φ
  obtain ⟨hx, hb, -⟩ := C
  intro H locs ws cells slots ls c1 c2 hI hP hD hS hl
  rw [bOp_vi] at kk
  exact lv_iand hx hb hd (kk H locs ws cells slots ls c1 c2 hI hP hD hS hl)
theorem x_ior {a b : Int} (C : Cx φ cc own ret cy) (hd : decode cc pc = .ok (.ior, 1)) (kk : X φ I k n (pc + 1) L (vi (bOp (· ||| ·) a b) :: st)) : X φ I k n pc L (vi b :: vi a :: st) := by
  obtain ⟨p, l, e, R, s, m, args, below, meth, c, A, nL, D, Q⟩ := φ
  obtain ⟨hx, hb, -⟩ := C
  intro H locs ws cells slots ls c1 c2 hI hP hD hS hl
  rw [bOp_vi] at kk
  exact lv_ior hx hb hd (kk H locs ws cells slots ls c1 c2 hI hP hD hS hl)
theorem x_ixor {a b : Int} (C : Cx φ cc own ret cy) (hd : decode cc pc = .ok (.ixor, 1)) (kk : X φ I k n (pc + 1) L (vi (bOp (· ^^^ ·) a b) :: st)) : X φ I k n pc L (vi b :: vi a :: st) := by
  obtain ⟨p, l, e, R, s, m, args, below, meth, c, A, nL, D, Q⟩ := φ
  obtain ⟨hx, hb, -⟩ := C
  intro H locs ws cells slots ls c1 c2 hI hP hD hS hl
  rw [bOp_vi] at kk
  exact lv_ixor hx hb hd (kk H locs ws cells slots ls c1 c2 hI hP hD hS hl)
theorem x_ishl {a b : Int} (C : Cx φ cc own ret cy) (hd : decode cc pc = .ok (.ishl, 1)) (kk : X φ I k n (pc + 1) L (vi (bOp (fun x y => x <<< (y &&& 31)) a b) :: st)) : X φ I k n pc L (vi b :: vi a :: st) := by
  obtain ⟨p, l, e, R, s, m, args, below, meth, c, A, nL, D, Q⟩ := φ
  obtain ⟨hx, hb, -⟩ := C
  intro H locs ws cells slots ls c1 c2 hI hP hD hS hl
  rw [bOp_vi] at kk
  exact lv_ishl hx hb hd (kk H locs ws cells slots ls c1 c2 hI hP hD hS hl)
-- jumps
theorem x_goto {off : Int} {tgt : Nat} (C : Cx φ cc own ret cy) (hd : decode cc pc = .ok (.goto off, 3)) (ht : (pc : Int) + off = (tgt : Int)) (kk : X φ I k n tgt L st) : X φ I k n pc L st := by
  obtain ⟨p, l, e, R, s, m, args, below, meth, c, A, nL, D, Q⟩ := φ
  obtain ⟨hx, hb, -⟩ := C
  intro H locs ws cells slots ls c1 c2 hI hP hD hS hl
  exact lv_goto hx hb hd ht (kk H locs ws cells slots ls c1 c2 hI hP hD hS hl)
theorem x_icmp_eq {off : Int} {tgt : Nat} {a b : Int} (C : Cx φ cc own ret cy) (hd : decode cc pc = .ok (.if_icmp .eq off, 3)) (ht : (pc : Int) + off = (tgt : Int)) (ha : -2147483648 ≤ a ∧ a ≤ 2147483647) (hb : -2147483648 ≤ b ∧ b ≤ 2147483647) (kt : a = b → X φ I k n tgt L st) (kf : ¬ a = b → X φ I k n (pc + 3) L st) : X φ I k n pc L (vi b :: vi a :: st) := by
  obtain ⟨p, l, e, R, s, m, args, below, meth, c, A, nL, D, Q⟩ := φ
  obtain ⟨hx, hb9, -⟩ := C
  intro H locs ws cells slots ls c1 c2 hI hP hD hS hl
  refine lv_icmp_eq hx hb9 hd ht (fun h => kt ?_ H locs ws cells slots ls c1 c2 hI hP hD hS hl) (fun h => kf ?_ H locs ws cells slots ls c1 c2 hI hP hD hS hl)
  · first | exact (i32_lt ha hb).mp h | exact (i32_le ha hb).mp h | exact (i32_lt hb ha).mp h | exact (i32_le hb ha).mp h | exact (i32_eq ha hb).mp h | exact fun e => h ((i32_eq ha hb).mpr e)
  · first | exact Int.not_lt.mp (fun e => h ((i32_lt ha hb).mpr e)) | exact Int.not_le.mp (fun e => h ((i32_le ha hb).mpr e)) | exact Int.not_lt.mp (fun e => h ((i32_lt hb ha).mpr e)) | exact Int.not_le.mp (fun e => h ((i32_le hb ha).mpr e)) | exact fun e => h ((i32_eq ha hb).mpr e) | exact (i32_eq ha hb).mp h | exact (i32_eq ha hb).mp (Classical.not_not.mp h)
theorem x_icmp_ne {off : Int} {tgt : Nat} {a b : Int} (C : Cx φ cc own ret cy) (hd : decode cc pc = .ok (.if_icmp .ne off, 3)) (ht : (pc : Int) + off = (tgt : Int)) (ha : -2147483648 ≤ a ∧ a ≤ 2147483647) (hb : -2147483648 ≤ b ∧ b ≤ 2147483647) (kt : ¬ a = b → X φ I k n tgt L st) (kf : a = b → X φ I k n (pc + 3) L st) : X φ I k n pc L (vi b :: vi a :: st) := by
  obtain ⟨p, l, e, R, s, m, args, below, meth, c, A, nL, D, Q⟩ := φ
  obtain ⟨hx, hb9, -⟩ := C
  intro H locs ws cells slots ls c1 c2 hI hP hD hS hl
  refine lv_icmp_ne hx hb9 hd ht (fun h => kt ?_ H locs ws cells slots ls c1 c2 hI hP hD hS hl) (fun h => kf ?_ H locs ws cells slots ls c1 c2 hI hP hD hS hl)
  · first | exact (i32_lt ha hb).mp h | exact (i32_le ha hb).mp h | exact (i32_lt hb ha).mp h | exact (i32_le hb ha).mp h | exact (i32_eq ha hb).mp h | exact fun e => h ((i32_eq ha hb).mpr e)
  · first | exact Int.not_lt.mp (fun e => h ((i32_lt ha hb).mpr e)) | exact Int.not_le.mp (fun e => h ((i32_le ha hb).mpr e)) | exact Int.not_lt.mp (fun e => h ((i32_lt hb ha).mpr e)) | exact Int.not_le.mp (fun e => h ((i32_le hb ha).mpr e)) | exact fun e => h ((i32_eq ha hb).mpr e) | exact (i32_eq ha hb).mp h | exact (i32_eq ha hb).mp (Classical.not_not.mp h)
theorem x_icmp_lt {off : Int} {tgt : Nat} {a b : Int} (C : Cx φ cc own ret cy) (hd : decode cc pc = .ok (.if_icmp .lt off, 3)) (ht : (pc : Int) + off = (tgt : Int)) (ha : -2147483648 ≤ a ∧ a ≤ 2147483647) (hb : -2147483648 ≤ b ∧ b ≤ 2147483647) (kt : a < b → X φ I k n tgt L st) (kf : b ≤ a → X φ I k n (pc + 3) L st) : X φ I k n pc L (vi b :: vi a :: st) := by
  obtain ⟨p, l, e, R, s, m, args, below, meth, c, A, nL, D, Q⟩ := φ
  obtain ⟨hx, hb9, -⟩ := C
  intro H locs ws cells slots ls c1 c2 hI hP hD hS hl
  refine lv_icmp_lt hx hb9 hd ht (fun h => kt ?_ H locs ws cells slots ls c1 c2 hI hP hD hS hl) (fun h => kf ?_ H locs ws cells slots ls c1 c2 hI hP hD hS hl)
  · first | exact (i32_lt ha hb).mp h | exact (i32_le ha hb).mp h | exact (i32_lt hb ha).mp h | exact (i32_le hb ha).mp h | exact (i32_eq ha hb).mp h | exact fun e => h ((i32_eq ha hb).mpr e)
  · first | exact Int.not_lt.mp (fun e => h ((i32_lt ha hb).mpr e)) | exact Int.not_le.mp (fun e => h ((i32_le ha hb).mpr e)) | exact Int.not_lt.mp (fun e => h ((i32_lt hb ha).mpr e)) | exact Int.not_le.mp (fun e => h ((i32_le hb ha).mpr e)) | exact fun e => h ((i32_eq ha hb).mpr e) | exact (i32_eq ha hb).mp h | exact (i32_eq ha hb).mp (Classical.not_not.mp h)
theorem x_icmp_ge {off : Int} {tgt : Nat} {a b : Int} (C : Cx φ cc own ret cy) (hd : decode cc pc = .ok (.if_icmp .ge off, 3)) (ht : (pc : Int) + off = (tgt : Int)) (ha : -2147483648 ≤ a ∧ a ≤ 2147483647) (hb : -2147483648 ≤ b ∧ b ≤ 2147483647) (kt : b ≤ a → X φ I k n tgt L st) (kf : a < b → X φ I k n (pc + 3) L st) : X φ I k n pc L (vi b :: vi a :: st) := by
  obtain ⟨p, l, e, R, s, m, args, below, meth, c, A, nL, D, Q⟩ := φ
  obtain ⟨hx, hb9, -⟩ := C
  intro H locs ws cells slots ls c1 c2 hI hP hD hS hl
  refine lv_icmp_ge hx hb9 hd ht (fun h => kt ?_ H locs ws cells slots ls c1 c2 hI hP hD hS hl) (fun h => kf ?_ H locs ws cells slots ls c1 c2 hI hP hD hS hl)
  · first | exact (i32_lt ha hb).mp h | exact (i32_le ha hb).mp h | exact (i32_lt hb ha).mp h | exact (i32_le hb ha).mp h | exact (i32_eq ha hb).mp h | exact fun e => h ((i32_eq ha hb).mpr e)
  · first | exact Int.not_lt.mp (fun e => h ((i32_lt ha hb).mpr e)) | exact Int.not_le.mp (fun e => h ((i32_le ha hb).mpr e)) | exact Int.not_lt.mp (fun e => h ((i32_lt hb ha).mpr e)) | exact Int.not_le.mp (fun e => h ((i32_le hb ha).mpr e)) | exact fun e => h ((i32_eq ha hb).mpr e) | exact (i32_eq ha hb).mp h | exact (i32_eq ha hb).mp (Classical.not_not.mp h)
theorem x_icmp_gt {off : Int} {tgt : Nat} {a b : Int} (C : Cx φ cc own ret cy) (hd : decode cc pc = .ok (.if_icmp .gt off, 3)) (ht : (pc : Int) + off = (tgt : Int)) (ha : -2147483648 ≤ a ∧ a ≤ 2147483647) (hb : -2147483648 ≤ b ∧ b ≤ 2147483647) (kt : b < a → X φ I k n tgt L st) (kf : a ≤ b → X φ I k n (pc + 3) L st) : X φ I k n pc L (vi b :: vi a :: st) := by
  obtain ⟨p, l, e, R, s, m, args, below, meth, c, A, nL, D, Q⟩ := φ
  obtain ⟨hx, hb9, -⟩ := C
  intro H locs ws cells slots ls c1 c2 hI hP hD hS hl
  refine lv_icmp_gt hx hb9 hd ht (fun h => kt ?_ H locs ws cells slots ls c1 c2 hI hP hD hS hl) (fun h => kf ?_ H locs ws cells slots ls c1 c2 hI hP hD hS hl)
  · first | exact (i32_lt ha hb).mp h | exact (i32_le ha hb).mp h | exact (i32_lt hb ha).mp h | exact (i32_le hb ha).mp h | exact (i32_eq ha hb).mp h | exact fun e => h ((i32_eq ha hb).mpr e)
  · first | exact Int.not_lt.mp (fun e => h ((i32_lt ha hb).mpr e)) | exact Int.not_le.mp (fun e => h ((i32_le ha hb).mpr e)) | exact Int.not_lt.mp (fun e => h ((i32_lt hb ha).mpr e)) | exact Int.not_le.mp (fun e => h ((i32_le hb ha).mpr e)) | exact fun e => h ((i32_eq ha hb).mpr e) | exact (i32_eq ha hb).mp h | exact (i32_eq ha hb).mp (Classical.not_not.mp h)
theorem x_icmp_le {off : Int} {tgt : Nat} {a b : Int} (C : Cx φ cc own ret cy) (hd : decode cc pc = .ok (.if_icmp .le off, 3)) (ht : (pc : Int) + off = (tgt : Int)) (ha : -2147483648 ≤ a ∧ a ≤ 2147483647) (hb : -2147483648 ≤ b ∧ b ≤ 2147483647) (kt : a ≤ b → X φ I k n tgt L st) (kf : b < a → X φ I k n (pc + 3) L st) : X φ I k n pc L (vi b :: vi a :: st) := by
  obtain ⟨p, l, e, R, s, m, args, below, meth, c, A, nL, D, Q⟩ := φ
  obtain ⟨hx, hb9, -⟩ := C
  intro H locs ws cells slots ls c1 c2 hI hP hD hS hl
  refine lv_icmp_le hx hb9 hd ht (fun h => kt ?_ H locs ws cells slots ls c1 c2 hI hP hD hS hl) (fun h => kf ?_ H locs ws cells slots ls c1 c2 hI hP hD hS hl)
  · first | exact (i32_lt ha hb).mp h | exact (i32_le ha hb).mp h | exact (i32_lt hb ha).mp h | exact (i32_le hb ha).mp h | exact (i32_eq ha hb).mp h | exact fun e => h ((i32_eq ha hb).mpr e)
  · first | exact Int.not_lt.mp (fun e => h ((i32_lt ha hb).mpr e)) | exact Int.not_le.mp (fun e => h ((i32_le ha hb).mpr e)) | exact Int.not_lt.mp (fun e => h ((i32_lt hb ha).mpr e)) | exact Int.not_le.mp (fun e => h ((i32_le hb ha).mpr e)) | exact fun e => h ((i32_eq ha hb).mpr e) | exact (i32_eq ha hb).mp h | exact (i32_eq ha hb).mp (Classical.not_not.mp h)
theorem x_if_eq {off : Int} {tgt : Nat} {a : Int} (C : Cx φ cc own ret cy) (hd : decode cc pc = .ok (.ifCond .eq off, 3)) (ht : (pc : Int) + off = (tgt : Int)) (ha : -2147483648 ≤ a ∧ a ≤ 2147483647) (kt : a = 0 → X φ I k n tgt L st) (kf : ¬ a = 0 → X φ I k n (pc + 3) L st) : X φ I k n pc L (vi a :: st) := by
  obtain ⟨p, l, e, R, s, m, args, below, meth, c, A, nL, D, Q⟩ := φ
  obtain ⟨hx, hb9, -⟩ := C
  intro H locs ws cells slots ls c1 c2 hI hP hD hS hl
  have hb : -2147483648 ≤ (0 : Int) ∧ (0 : Int) ≤ 2147483647 := by omega
  refine lv_if_eq hx hb9 hd ht (fun h => kt ?_ H locs ws cells slots ls c1 c2 hI hP hD hS hl) (fun h => kf ?_ H locs ws cells slots ls c1 c2 hI hP hD hS hl)
  · first | exact (i32_lt ha hb).mp h | exact (i32_le ha hb).mp h | exact (i32_lt hb ha).mp h | exact (i32_le hb ha).mp h | exact (i32_eq ha hb).mp h | exact fun e => h ((i32_eq ha hb).mpr e)
  · first | exact Int.not_lt.mp (fun e => h ((i32_lt ha hb).mpr e)) | exact Int.not_le.mp (fun e => h ((i32_le ha hb).mpr e)) | exact Int.not_lt.mp (fun e => h ((i32_lt hb ha).mpr e)) | exact Int.not_le.mp (fun e => h ((i32_le hb ha).mpr e)) | exact fun e => h ((i32_eq ha hb).mpr e) | exact (i32_eq ha hb).mp h | exact (i32_eq ha hb).mp (Classical.not_not.mp h)
theorem x_if_ne {off : Int} {tgt : Nat} {a : Int} (C : Cx φ cc own ret cy) (hd : decode cc pc = .ok (.ifCond .ne off, 3)) (ht : (pc : Int) + off = (tgt : Int)) (ha : -2147483648 ≤ a ∧ a ≤ 2147483647) (kt : ¬ a = 0 → X φ I k n tgt L st) (kf : a = 0 → X φ I k n (pc + 3) L st) : X φ I k n pc L (vi a :: st) := by
  obtain ⟨p, l, e, R, s, m, args, below, meth, c, A, nL, D, Q⟩ := φ
  obtain ⟨hx, hb9, -⟩ := C
  intro H locs ws cells slots ls c1 c2 hI hP hD hS hl
  have hb : -2147483648 ≤ (0 : Int) ∧ (0 : Int) ≤ 2147483647 := by omega
  refine lv_if_ne hx hb9 hd ht (fun h => kt ?_ H locs ws cells slots ls c1 c2 hI hP hD hS hl) (fun h => kf ?_ H locs ws cells slots ls c1 c2 hI hP hD hS hl)
  · first | exact (i32_lt ha hb).mp h | exact (i32_le ha hb).mp h | exact (i32_lt hb ha).mp h | exact (i32_le hb ha).mp h | exact (i32_eq ha hb).mp h | exact fun e => h ((i32_eq ha hb).mpr e)
  · first | exact Int.not_lt.mp (fun e => h ((i32_lt ha hb).mpr e)) | exact Int.not_le.mp (fun e => h ((i32_le ha hb).mpr e)) | exact Int.not_lt.mp (fun e => h ((i32_lt hb ha).mpr e)) | exact Int.not_le.mp (fun e => h ((i32_le hb ha).mpr e)) | exact fun e => h ((i32_eq ha hb).mpr e) | exact (i32_eq ha hb).mp h | exact (i32_eq ha hb).mp (Classical.not_not.mp h)
theorem x_if_lt {off : Int} {tgt : Nat} {a : Int} (C : Cx φ cc own ret cy) (hd : decode cc pc = .ok (.ifCond .lt off, 3)) (ht : (pc : Int) + off = (tgt : Int)) (ha : -2147483648 ≤ a ∧ a ≤ 2147483647) (kt : a < 0 → X φ I k n tgt L st) (kf : 0 ≤ a → X φ I k n (pc + 3) L st) : X φ I k n pc L (vi a :: st) := by
  obtain ⟨p, l, e, R, s, m, args, below, meth, c, A, nL, D, Q⟩ := φ
  obtain ⟨hx, hb9, -⟩ := C
  intro H locs ws cells slots ls c1 c2 hI hP hD hS hl
  have hb : -2147483648 ≤ (0 : Int) ∧ (0 : Int) ≤ 2147483647 := by omega
  refine lv_if_lt hx hb9 hd ht (fun h => kt ?_ H locs ws cells slots ls c1 c2 hI hP hD hS hl) (fun h => kf ?_ H locs ws cells slots ls c1 c2 hI hP hD hS hl)
  · first | exact (i32_lt ha hb).mp h | exact (i32_le ha hb).mp h | exact (i32_lt hb ha).mp h | exact (i32_le hb ha).mp h | exact (i32_eq ha hb).mp h | exact fun e => h ((i32_eq ha hb).mpr e)
  · first | exact Int.not_lt.mp (fun e => h ((i32_lt ha hb).mpr e)) | exact Int.not_le.mp (fun e => h ((i32_le ha hb).mpr e)) | exact Int.not_lt.mp (fun e => h ((i32_lt hb ha).mpr e)) | exact Int.not_le.mp (fun e => h ((i32_le hb ha).mpr e)) | exact fun e => h ((i32_eq ha hb).mpr e) | exact (i32_eq ha hb).mp h | exact (i32_eq ha hb).mp (Classical.not_not.mp h)
theorem x_if_ge {off : Int} {tgt : Nat} {a : Int} (C : Cx φ cc own ret cy) (hd : decode cc pc = .ok (.ifCond .ge off, 3)) (ht : (pc : Int) + off = (tgt : Int)) (ha : -2147483648 ≤ a ∧ a ≤ 2147483647) (kt : 0 ≤ a → X φ I k n tgt L st) (kf : a < 0 → X φ I k n (pc + 3) L st) : X φ I k n pc L (vi a :: st) := by
  obtain ⟨p, l, e, R, s, m, args, below, meth, c, A, nL, D, Q⟩ := φ
  obtain ⟨hx, hb9, -⟩ := C
  intro H locs ws cells slots ls c1 c2 hI hP hD hS hl
  have hb : -2147483648 ≤ (0 : Int) ∧ (0 : Int) ≤ 2147483647 := by omega
  refine lv_if_ge hx hb9 hd ht (fun h => kt ?_ H locs ws cells slots ls c1 c2 hI hP hD hS hl) (fun h => kf ?_ H locs ws cells slots ls c1 c2 hI hP hD hS hl)
  · first | exact (i32_lt ha hb).mp h | exact (i32_le ha hb).mp h | exact (i32_lt hb ha).mp h | exact (i32_le hb ha).mp h | exact (i32_eq ha hb).mp h | exact fun e => h ((i32_eq ha hb).mpr e)
  · first | exact Int.not_lt.mp (fun e => h ((i32_lt ha hb).mpr e)) | exact Int.not_le.mp (fun e => h ((i32_le ha hb).mpr e)) | exact Int.not_lt.mp (fun e => h ((i32_lt hb ha).mpr e)) | exact Int.not_le.mp (fun e => h ((i32_le hb ha).mpr e)) | exact fun e => h ((i32_eq ha hb).mpr e) | exact (i32_eq ha hb).mp h | exact (i32_eq ha hb).mp (Classical.not_not.mp h)
theorem x_if_gt {off : Int} {tgt : Nat} {a : Int} (C : Cx φ cc own ret cy) (hd : decode cc pc = .ok (.ifCond .gt off, 3)) (ht : (pc : Int) + off = (tgt : Int)) (ha : -2147483648 ≤ a ∧ a ≤ 2147483647) (kt : 0 < a → X φ I k n tgt L st) (kf : a ≤ 0 → X φ I k n (pc + 3) L st) : X φ I k n pc L (vi a :: st) := by
  obtain ⟨p, l, e, R, s, m, args, below, meth, c, A, nL, D, Q⟩ := φ
  obtain ⟨hx, hb9, -⟩ := C
  intro H locs ws cells slots ls c1 c2 hI hP hD hS hl
  have hb : -2147483648 ≤ (0 : Int) ∧ (0 : Int) ≤ 2147483647 := by omega
  refine lv_if_gt hx hb9 hd ht (fun h => kt ?_ H locs ws cells slots ls c1 c2 hI hP hD hS hl) (fun h => kf ?_ H locs ws cells slots ls c1 c2 hI hP hD hS hl)
  · first | exact (i32_lt ha hb).mp h | exact (i32_le ha hb).mp h | exact (i32_lt hb ha).mp h | exact (i32_le hb ha).mp h | exact (i32_eq ha hb).mp h | exact fun e => h ((i32_eq ha hb).mpr e)
  · first | exact Int.not_lt.mp (fun e => h ((i32_lt ha hb).mpr e)) | exact Int.not_le.mp (fun e => h ((i32_le ha hb).mpr e)) | exact Int.not_lt.mp (fun e => h ((i32_lt hb ha).mpr e)) | exact Int.not_le.mp (fun e => h ((i32_le hb ha).mpr e)) | exact fun e => h ((i32_eq ha hb).mpr e) | exact (i32_eq ha hb).mp h | exact (i32_eq ha hb).mp (Classical.not_not.mp h)
theorem x_if_le {off : Int} {tgt : Nat} {a : Int} (C : Cx φ cc own ret cy) (hd : decode cc pc = .ok (.ifCond .le off, 3)) (ht : (pc : Int) + off = (tgt : Int)) (ha : -2147483648 ≤ a ∧ a ≤ 2147483647) (kt : a ≤ 0 → X φ I k n tgt L st) (kf : 0 < a → X φ I k n (pc + 3) L st) : X φ I k n pc L (vi a :: st) := by
  obtain ⟨p, l, e, R, s, m, args, below, meth, c, A, nL, D, Q⟩ := φ
  obtain ⟨hx, hb9, -⟩ := C
  intro H locs ws cells slots ls c1 c2 hI hP hD hS hl
  have hb : -2147483648 ≤ (0 : Int) ∧ (0 : Int) ≤ 2147483647 := by omega
  refine lv_if_le hx hb9 hd ht (fun h => kt ?_ H locs ws cells slots ls c1 c2 hI hP hD hS hl) (fun h => kf ?_ H locs ws cells slots ls c1 c2 hI hP hD hS hl)
  · first | exact (i32_lt ha hb).mp h | exact (i32_le ha hb).mp h | exact (i32_lt hb ha).mp h | exact (i32_le hb ha).mp h | exact (i32_eq ha hb).mp h | exact fun e => h ((i32_eq ha hb).mpr e)
  · first | exact Int.not_lt.mp (fun e => h ((i32_lt ha hb).mpr e)) | exact Int.not_le.mp (fun e => h ((i32_le ha hb).mpr e)) | exact Int.not_lt.mp (fun e => h ((i32_lt hb ha).mpr e)) | exact Int.not_le.mp (fun e => h ((i32_le hb ha).mpr e)) | exact fun e => h ((i32_eq ha hb).mpr e) | exact (i32_eq ha hb).mp h | exact (i32_eq ha hb).mp (Classical.not_not.mp h)
theorem x_ifnull {off : Int} {tgt : Nat} {o : Option Nat} (C : Cx φ cc own ret cy) (hd : decode cc pc = .ok (.ifnull off, 3)) (ht : (pc : Int) + off = (tgt : Int)) (kt : o = none → X φ I k n tgt L st) (kf : ∀ a, o = some a → X φ I k n (pc + 3) L st) : X φ I k n pc L (vr o :: st) := by
  obtain ⟨p, l, e, R, s, m, args, below, meth, c, A, nL, D, Q⟩ := φ
  obtain ⟨hx, hb, -⟩ := C
  intro H locs ws cells slots ls c1 c2 hI hP hD hS hl
  cases o with
  | none => exact lv_ifnullN hx hb hd ht (kt rfl H locs ws cells slots ls c1 c2 hI hP hD hS hl)
  | some a => exact lv_ifnull hx hb hd (kf a rfl H locs ws cells slots ls c1 c2 hI hP hD hS hl)
theorem x_ifnonnull {off : Int} {tgt : Nat} {o : Option Nat} (C : Cx φ cc own ret cy) (hd : decode cc pc = .ok (.ifnonnull off, 3)) (ht : (pc : Int) + off = (tgt : Int)) (kt : ∀ a, o = some a → X φ I k n tgt L st) (kf : o = none → X φ I k n (pc + 3) L st) : X φ I k n pc L (vr o :: st) := by
  obtain ⟨p, l, e, R, s, m, args, below, meth, c, A, nL, D, Q⟩ := φ
  obtain ⟨hx, hb, -⟩ := C
  intro H locs ws cells slots ls c1 c2 hI hP hD hS hl
  cases o with
  | none => exact lv_ifnonnullN hx hb hd (kf rfl H locs ws cells slots ls c1 c2 hI hP hD hS hl)
  | some a => exact lv_ifnonnull hx hb hd ht (kt a rfl H locs ws cells slots ls c1 c2 hI hP hD hS hl)
theorem x_acmp_ne {off : Int} {tgt : Nat} {o1 o2 : Option Nat} (C : Cx φ cc own ret cy) (hd : decode cc pc = .ok (.if_acmp .ne off, 3)) (ht : (pc : Int) + off = (tgt : Int)) (kt : ¬ o1 = o2 → X φ I k n tgt L st) (kf : o1 = o2 → X φ I k n (pc + 3) L st) : X φ I k n pc L (vr o2 :: vr o1 :: st) := by
  obtain ⟨p, l, e, R, s, m, args, below, meth, c, A, nL, D, Q⟩ := φ
  obtain ⟨hx, hb, -⟩ := C
  intro H locs ws cells slots ls c1 c2 hI hP hD hS hl
  exact lv_acmp_ne hx hb hd ht (fun h => kt h H locs ws cells slots ls c1 c2 hI hP hD hS hl) (fun h => kf h H locs ws cells slots ls c1 c2 hI hP hD hS hl)
end Rules

/-! What other writes leave of the representation -/
theorem SP.cg {h h' : HS} {A : AD} {M : MS} (s : SP h A M) (hk : kD h' = kD h := by rfl) (hl : ln h' = ln h := by rfl) (i10 : fI h' 10 = fI h 10 := by rfl) (i13 : fI h' 13 = fI h 13 := by rfl) (i14 : fI h' 14 = fI h 14 := by rfl) (i15 : fI h' 15 = fI h 15 := by rfl) (i16 : fI h' 16 = fI h 16 := by rfl) (i40 : fI h' 40 = fI h 40 := by rfl) (i43 : fI h' 43 = fI h 43 := by rfl) (i44 : fI h' 44 = fI h 44 := by rfl) (i45 : fI h' 45 = fI h 45 := by rfl) (p11 : fP h' 11 = fP h 11 := by rfl) (p12 : fP h' 12 = fP h 12 := by rfl) (p41 : fP h' 41 = fP h 41 := by rfl) : SP h' A M := by
  obtain ⟨s1, s2, s3, s4⟩ := s
  refine ⟨s1, fun k h0 h1 => ?_, fun d h0 h1 => ?_, fun e h0 h1 => ?_⟩
  · have := s2 k h0 h1
    simp only [NdOK, hk, hl, i40, p41] at *
    exact this
  · have := s3 d h0 h1
    simp only [DvOK, i43, i44, i45] at *
    exact this
  · have := s4 e h0 h1
    simp only [EvOK, hk, i10, i13, i14, i15, i16, p11, p12] at *
    exact this
theorem LW.cg {h h' : HS} {A : AD} {f : Int → Int} (hf : LW h A f) (p42 : fP h' 42 = fP h 42 := by rfl) : LW h' A f := fun k h0 h1 => by
  rw [p42]
  exact hf k h0 h1
theorem CLs.cg {h h' : HS} {ow : Nat → Int} {r : Int} (hk : kD h' = kD h := by rfl) (i0 : fI h' 0 = fI h 0 := by rfl) (i1 : fI h' 1 = fI h 1 := by rfl) (p2 : fP h' 2 = fP h 2 := by rfl) : ∀ {l : List (Int × Int)} {o : Option Nat}, CLs h ow r o l → CLs h' ow r o l := by
  intro l
  induction l with
  | nil => intro o h; exact h
  | cons v t ih =>
    rintro o ⟨a, h1, h2, h3, h4, h5, h6⟩
    exact ⟨a, h1, by rw [hk]; exact h2, by rw [i0]; exact h3, by rw [i1]; exact h4, h5, by rw [p2]; exact ih h6⟩
theorem Ct.of1I {l : Launch} {D : va_G} {cy : CY} {y : MethodName} {b : ByteArray} {maxL : Nat} {rt : Option FieldType} {fr lo mc ms : Nat} {σ : Type} {I : σ → va_W → Prop} {as : List Value} {x : σ} {Post : Except String (Option Value) → σ → Prop} {own : String}
    (hst : l.stackTraces = false) (hy : plainName y.cls = true) (hown : y.cls = own) (hnm : y.name = "<init>") (hlen : as.length ≤ maxL) (hcat : ∀ v ∈ as, v.category = 1)
    (body : ∀ φ : Fx, Cx φ b own rt cy → RetOK φ I Post mc ms → nLof φ = maxL → ROf φ = { frames := fr, cells := mc, slots := ms, locals := lo } → lOf φ = l → DOf φ = D → methIni φ → X φ (I x) 0 0 0 (args1 0 as) []) :
    Ct l D cy y (Cond.code y b maxL rt) fr lo mc ms I as x Post := by
  intro sz ws hI
  refine vx_ofW (cc := b) (maxL := maxL) (ret := rt) hy rfl ?_
  intro p e s m args below meth c s₁ B hml ht hv
  obtain ⟨rfl, hsz, hP, hK, hD0, hE⟩ := hv
  have hts := atoms_spec (ws := Cond.code y b maxL rt :: wsL_law) B.pre
  have hownc : s.vm.findClass own = some m.cls := by rw [← hown]; exact findClass_of_methodNamed B.named
  have hin : meth.name = "<init>" := (name_of_methodNamed B.named B.method).1.trans hnm
  have hbody := body (p, l, e, _, s, m, as.toArray, below, meth, c, va_A ws sz, maxL, D, vx_MQ below (CtQ D I Post ws sz) (CtX D I Post ws sz) as.toArray s mc ms (va_A ws sz))
    ⟨B.exec, B.bytes, B.returns, hml, hownc, fun w hw => hts w (List.mem_cons_of_mem _ hw), B.notSynchronized, hK, fun q hq => Or.inr (by rw [← hsz]; exact hq), hst, hE⟩
    ⟨ht, ws, sz, hsz, rfl, rfl⟩ rfl rfl rfl rfl hin
  have hl := lv_entry as (n := maxL) (by rw [lg_sl1 as hcat]; exact hlen)
  rw [lv_args1 as 0 hcat] at hl
  rw [lg_entry_eq]
  exact hbody s.heap [] ws 0 0 _ (Nat.le_refl _) (Nat.le_refl _) hI hP hD0.self va_S.rf ⟨hl.1, hl.2.1, fun i v hv => ⟨hl.2.2 _ (lk_mem _ _ _ hv), args1_cat as 0 hcat _ (lk_mem _ _ _ hv)⟩⟩
/-- masks of those told of a group -/
def grpOK (h : HS) (A : AD) (M : MS) (g : Int) : Prop := kD h (gp A g) = 4 ∧ fI h 30 (gp A g) = g ∧ fI h 31 (gp A g) = M 18 g ∧ fI h 32 (gp A g) = M 19 g ∧ fI h 33 (gp A g) = M 20 g ∧ fI h 34 (gp A g) = M 21 g

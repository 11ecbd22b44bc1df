/-! A method's entry, for arguments of one slot each -/
def args1 : Nat → List Value → List (Nat × Value)
  | _, [] => []
  | i, v :: vs => (i, v) :: args1 (i + 1) vs
theorem lv_args1 : ∀ (as : List Value) (i : Nat), (∀ v ∈ as, v.category = 1) → lv_args i as = args1 i as := by
  intro as
  induction as with
  | nil => intro i _; rfl
  | cons v t ih =>
    intro i h
    have h1 : v.category = 1 := h v List.mem_cons_self
    show (i, v) :: lv_args (if v.category = 2 then i + 2 else i + 1) t = (i, v) :: args1 (i + 1) t
    rw [if_neg (by omega), ih (i + 1) (fun w hw => h w (List.mem_cons_of_mem _ hw))]
theorem lg_sl1 : ∀ (as : List Value), (∀ v ∈ as, v.category = 1) → (lg_sl as).length = as.length := by
  intro as
  induction as with
  | nil => intro _; rfl
  | cons v t ih =>
    intro h
    have h1 : v.category = 1 := h v List.mem_cons_self
    have h2 : lg_sl (v :: t) = (if v.category = 2 then [Slot.val v, Slot.second] else [Slot.val v]) ++ lg_sl t := by simp [lg_sl]
    rw [h2, if_neg (by omega), List.length_append, ih (fun w hw => h w (List.mem_cons_of_mem _ hw))]
    simp; omega
theorem lk_mem : ∀ (L : List (Nat × Value)) (i : Nat) (v : Value), lk L i = some v → (i, v) ∈ L := by
  intro L
  induction L with
  | nil => intro i v h; cases h
  | cons q t ih =>
    obtain ⟨j, w⟩ := q
    intro i v h
    by_cases hj : j = i
    · subst hj
      rw [lk_cons_eq] at h
      cases h
      exact List.mem_cons_self
    · rw [lk_cons_ne hj] at h
      exact List.mem_cons_of_mem _ (ih i v h)
theorem args1_cat : ∀ (as : List Value) (i : Nat), (∀ v ∈ as, v.category = 1) → ∀ q ∈ args1 i as, q.2.category = 1 := by
  intro as
  induction as with
  | nil => intro i _ q hq; cases hq
  | cons v t ih =>
    intro i h q hq
    rcases List.mem_cons.mp hq with rfl | hq
    · exact h _ List.mem_cons_self
    · exact ih (i + 1) (fun w hw => h w (List.mem_cons_of_mem _ hw)) q hq
theorem Ct.of1 {l : Launch} {D : va_G} {cy : CY} {y : MethodName} {b : ByteArray} {maxL : Nat} {rt : Option FieldType} {fr lo mc ms : Nat} {σ : Type} {I : σ → va_W → Prop} {as : List Value} {x : σ} {Post : Except String (Option Value) → σ → Prop} {own : String}
    (hst : l.stackTraces = false) (hy : plainName y.cls = true) (hown : y.cls = own) (hlen : as.length ≤ maxL) (hcat : ∀ v ∈ as, v.category = 1)
    (body : ∀ φ : Fx, Cx φ b own rt cy → RetOK φ I Post mc ms → nLof φ = maxL → ROf φ = { frames := fr, cells := mc, slots := ms, locals := lo } → lOf φ = l → DOf φ = D → X φ (I x) 0 0 0 (args1 0 as) []) :
    Ct l D cy y (Cond.code y b maxL rt) fr lo mc ms I as x Post := by
  refine Ct.of hst hy hown (args1 0 as) (by rw [lg_sl1 as hcat]; exact hlen) (fun ls hl => ?_) body
  rw [lv_args1 as 0 hcat] at hl
  exact ⟨hl.1, hl.2.1, fun i v hv => ⟨hl.2.2 _ (lk_mem _ _ _ hv), args1_cat as 0 hcat _ (lk_mem _ _ _ hv)⟩⟩
def bi (p : Prop) [Decidable p] : Int := if p then 1 else 0
theorem bi_t {p : Prop} [Decidable p] (h : p) : bi p = 1 := if_pos h
theorem bi_f {p : Prop} [Decidable p] (h : ¬ p) : bi p = 0 := if_neg h
theorem bi_01 (p : Prop) [Decidable p] : bi p = 0 ∨ bi p = 1 := by
  unfold bi; split <;> simp
theorem bi_eq0 {p : Prop} [Decidable p] : bi p = 0 ↔ ¬ p := by
  unfold bi; split <;> simp [*]
theorem bi_eq1 {p : Prop} [Decidable p] : bi p = 1 ↔ p := by
  unfold bi; split <;> simp [*]
theorem bi_congr {p q : Prop} [Decidable p] [Decidable q] (h : p ↔ q) : bi p = bi q := by
  unfold bi; by_cases hp : p <;> simp [hp, h.mp, (not_congr h).mp]
theorem rv {z a : Int} (h : z = a) : (Except.ok (some (vi z)) : Except String (Option Value)) = .ok (some (vi a)) := by rw [h]
theorem nar_bi {z : Int} (h : z = 0 ∨ z = 1) : narrow .boolean (vi z) = vi z := by
  rcases h with rfl | rfl <;> rfl
theorem cat1 {v : Value} (h : v.category = 1) {vs : List Value} (hs : ∀ w ∈ vs, w.category = 1) : ∀ w ∈ v :: vs, w.category = 1 := fun w hw => by
  rcases List.mem_cons.mp hw with rfl | hw
  · exact h
  · exact hs w hw
theorem cat0 : ∀ w ∈ ([] : List Value), w.category = 1 := fun _ h => absurd h List.not_mem_nil

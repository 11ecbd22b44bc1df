/-! Parts of the reference's memory that don't change, and what stands on them alone -/
def Sm (ks : List Nat) (M M' : MS) : Prop := ∀ k, k ∉ ks → M' k = M k
theorem Sm.rf {ks : List Nat} (M : MS) : Sm ks M M := fun _ _ => rfl
theorem Sm.up {ks ks' : List Nat} {M M' : MS} (h : Sm ks M M') (hk : ∀ k ∈ ks, k ∈ ks') : Sm ks' M M' := fun k q => h k (fun g => q (hk k g))
theorem Sm.tr {ks : List Nat} {M M1 M2 : MS} (h : Sm ks M M1) (g : Sm ks M1 M2) : Sm ks M M2 := fun k q => (g k q).trans (h k q)
theorem Sm.set (M : MS) (k : Nat) (j z : Int) : Sm [k] M (mset M k j z) := fun k' q => by
  funext j'
  exact mset_ne (fun e => q (by rw [e]; exact List.mem_singleton.mpr rfl)) M j z j'
theorem Fnd.sm {M M1 : MS} (h : Fnd M M1) : Sm [27] M M1 := fun k q => h.1 k (fun e => q (by rw [e]; exact List.mem_singleton.mpr rfl))
section SmRows
variable {ks : List Nat} {M M' : MS}
theorem Sm.tm (h : Sm ks M M') (e : Int) (hk : ∀ k ∈ ks, k ∉ [4, 8, 11] := by decide) : tmOf M' e = tmOf M e := by
  unfold tmOf
  rw [h 4 (fun q => hk 4 q (by decide)), h 8 (fun q => hk 8 q (by decide)), h 11 (fun q => hk 11 q (by decide))]
theorem Sm.no (h : Sm ks M M') (e : Int) (hk : ∀ k ∈ ks, k ∉ [4, 5, 12] := by decide) : ndOf M' e = ndOf M e := by
  unfold ndOf
  rw [h 4 (fun q => hk 4 q (by decide)), h 5 (fun q => hk 5 q (by decide)), h 12 (fun q => hk 12 q (by decide))]
theorem Sm.ah (h : Sm ks M M') (e u : Int) (hk : ∀ k ∈ ks, k ∉ [4, 8, 11] := by decide) : ahd M' e u ↔ ahd M e u := by
  show (_ ∨ _) ↔ (_ ∨ _)
  rw [h.tm e hk, h.tm u hk]
theorem Sm.ord (h : Sm ks M M') {l : List Int} (hO : Ord M l) (hk : ∀ k ∈ ks, k ∉ [2, 4, 8, 9, 11] := by decide) : Ord M' l := by
  have hk2 : ∀ k ∈ ks, k ∉ [4, 8, 11] := fun k q g => hk k q (by simp only [List.mem_cons, List.not_mem_nil, or_false] at g ⊢; omega)
  refine ⟨hO.1.imp (fun {a b} hab => (h.ah a b hk2).mpr hab), fun e => ?_⟩
  rw [h 2 (fun q => hk 2 q (by decide)), h 9 (fun q => hk 9 q (by decide))]
  exact hO.2 e
theorem slC_cong (h15 : M' 15 = M 15) (h16 : M' 16 = M 16) (row : Int) : ∀ i : Nat, slC M' row i = slC M row i := by
  intro i
  induction i with
  | zero => rfl
  | succ i ih => simp only [slC, ih, h15, h16]
theorem Sm.cns {h : HS} {A : AD} {ow : Nat → Int} (g : Sm ks M M') (hC : CNs h A M ow) (hk : ∀ k ∈ ks, k ∉ [14, 15, 16] := by decide) : CNs h A M' ow := fun k p h0 h1 h2 h3 => by
  rw [slC_cong (g 15 (fun q => hk 15 q (by decide))) (g 16 (fun q => hk 16 q (by decide))), g 14 (fun q => hk 14 q (by decide))]
  exact hC k p h0 h1 h2 h3
theorem Sm.grp {h : HS} {A : AD} {i : Int} (g : Sm ks M M') (hg : grpOK h A M i) (hk : ∀ k ∈ ks, k ∉ [18, 19, 20, 21] := by decide) : grpOK h A M' i := by
  simp only [grpOK, g 18 (fun q => hk 18 q (by decide)), g 19 (fun q => hk 19 q (by decide)), g 20 (fun q => hk 20 q (by decide)), g 21 (fun q => hk 21 q (by decide))]
  exact hg
theorem Sm.gl0 {h : HS} {A : AD} (g : Sm ks M M') (hk : ∀ k ∈ ks, k ∉ [18, 19, 20, 21]) : ∀ {n : Nat} {i : Int} {u : Option Nat}, GL h A M n i u → GL h A M' n i u := by
  intro n
  induction n with
  | zero => intro i u hh; exact hh
  | succ n ih =>
    rintro i u ⟨e1, e2, e3⟩
    exact ⟨e1, g.grp e2 hk, ih e3⟩
theorem Sm.gl {h : HS} {A : AD} (g : Sm ks M M') {n : Nat} {i : Int} {u : Option Nat} (hh : GL h A M n i u) (hk : ∀ k ∈ ks, k ∉ [18, 19, 20, 21] := by decide) : GL h A M' n i u := g.gl0 hk hh
theorem Sm.eg (g : Sm ks M M') (x y : Int) (hk : ∀ k ∈ ks, k ∉ [2, 4, 5, 9, 12, 13] := by decide) : edge M' x y ↔ edge M x y := by
  unfold edge lnk
  simp only [g 2 (fun q => hk 2 q (by decide)), g 4 (fun q => hk 4 q (by decide)), g 5 (fun q => hk 5 q (by decide)), g 9 (fun q => hk 9 q (by decide)), g 12 (fun q => hk 12 q (by decide)), g 13 (fun q => hk 13 q (by decide))]
theorem Sm.low (g : Sm ks M M') {f : Int → Int} (hf : IsLow M f) (hk : ∀ k ∈ ks, k ∉ [2, 4, 5, 9, 12, 13] := by decide) : IsLow M' f := by
  refine ⟨fun a h0 h1 => ⟨(hf.1 a h0 h1).1, fun q hq => (hf.1 a h0 h1).2 q (fun x y hxy => hq x y ((g.eg x y hk).mpr hxy))⟩, fun x y hxy => hf.2 x y ((g.eg x y hk).mp hxy)⟩
theorem Sm.sp {h : HS} {A : AD} (g : Sm ks M M') (hM : MI M') (s : SP h A M) (hk : ∀ k ∈ ks, k ∉ [2, 3, 4, 5, 6, 7, 8, 11, 12, 13] := by decide) : SP h A M' := by
  have e : ∀ k, k ∈ [2, 3, 4, 5, 6, 7, 8, 11, 12, 13] → M' k = M k := fun k q => g k (fun q' => hk k q' q)
  refine ⟨hM, s.no, fun d h0 h1 => ?_, fun u h0 h1 => ?_⟩
  · have := s.dv d h0 h1
    simp only [DvOK, e 11 (by decide), e 12 (by decide), e 13 (by decide)]
    exact this
  · rw [e 2 (by decide)] at h1
    have := s.ve u h0 h1
    simp only [EvOK, e 3 (by decide), e 4 (by decide), e 5 (by decide), e 6 (by decide), e 7 (by decide), e 8 (by decide)]
    exact this
theorem Sm.cn (g : Sm ks M M') (e p : Int) (hk : ∀ k ∈ ks, k ∉ [4, 5, 8, 11, 14, 15, 16] := by decide) : cnt M' e p ↔ cnt M e p := by
  have q : ∀ k, k ∈ [4, 5, 8, 11, 14, 15, 16] → M' k = M k := fun k q => g k (fun q' => hk k q' q)
  have hk2 : ∀ k ∈ ks, k ∉ [4, 8, 11] := fun k q g => hk k q (by simp only [List.mem_cons, List.not_mem_nil, or_false] at g ⊢; omega)
  have hr : rowOf M' e p = rowOf M e p := by
    unfold rowOf
    rw [q 4 (by decide), q 5 (by decide)]
  show chG M' (rowOf M' e p) (tmOf M' e) (M' 14 (rowOf M' e p)).toNat = 1 ↔ chG M (rowOf M e p) (tmOf M e) (M 14 (rowOf M e p)).toNat = 1
  rw [hr, g.tm e hk2, q 14 (by decide), chG_cong (q 15 (by decide)) (q 16 (by decide))]
theorem sgGo_cong (ht : ∀ e, tmOf M' e = tmOf M e) (h7 : M' 7 = M 7) : ∀ (r : List Int) (f la sz c : Int), sgGo M' f la sz c r = sgGo M f la sz c r := by
  intro r
  induction r with
  | nil => intro f la sz c; rfl
  | cons x r ih =>
    intro f la sz c
    simp only [sgGo, cts, ht, h7, ih]
theorem sgs_cong (ht : ∀ e, tmOf M' e = tmOf M e) (h7 : M' 7 = M 7) (p : List Int) : sgs M' p = sgs M p := by
  cases p with
  | nil => rfl
  | cons x r =>
    show sgGo M' x x 1 (M' 7 x) r = sgGo M x x 1 (M 7 x) r
    rw [sgGo_cong ht h7, h7]
end SmRows

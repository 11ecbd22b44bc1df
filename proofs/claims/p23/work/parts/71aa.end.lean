/-! The law's end; a call above seven things on the stack -/
section LawEnd
variable {φ : Fx} {I : va_W → Prop} {k n pc : Nat} {L : List (Nat × Value)} {cy : CY}
theorem x_lawret (C : Cx φ code R_law ret cy) (hR : LawRet φ) (hk : k ≤ 600074) (hn : n ≤ 7301550) (hd : decode code pc = .ok (.ireturn, 1)) : X φ I k n pc L [vi 1] := by
  obtain ⟨p, l, e, R, s, m, args, below, meth, c, A, nL, D, Q⟩ := φ
  obtain ⟨hx, hb, hr, hml, hown, hts, hlocks, -⟩ := C
  obtain ⟨rfl, bs, rfl, rfl, rfl⟩ := hR
  intro H locs ws cells slots ls c1 c2 hI hP hD hS hl
  refine va_forget (fun q hq => hS.2.2 q hq) ?_
  refine W.widen (k := 600074) (n := 7301550) (Nat.le_trans c1 hk) (Nat.le_trans c2 hn) ?_
  exact lw_ret hx hb hr hlocks hd
end LawEnd
section CallS8
variable {φ : Fx} {k n pc : Nat} {L : List (Nat × Value)} {st0 rest : List Value} {cc : ByteArray} {own : String} {ret : Option FieldType} {cy : CY} {R0 : Room} {σ : Type} {I : σ → va_W → Prop} {Post : Except String (Option Value) → σ → Prop} {x : σ} {y : MethodName} {b : ByteArray} {maxL : Nat} {rt : Option FieldType} {np idx fr lo mc ms : Nat} {as : List Value}
theorem x_callS8 (C : Cx φ cc own ret cy) (hR0 : ROf φ = R0) (hB : CB y b maxL rt np) (hV : Cond.static y ∈ wsL_law) (hlink : Cond.methodLink own idx y ∈ wsL_law)
    (hM : Ct (lOf φ) (DOf φ) cy y (Cond.code y b maxL rt) fr lo mc ms I as x Post)
    (hlen : as.length = np) (hst : (rest.map fun v => v.category).sum ≤ 8) (hst0 : st0 = as.reverse ++ rest) (hd : decode cc pc = .ok (.invokestatic idx, 3)) (hroom : fr + 1 ≤ R0.frames ∧ 8 + (maxL + 11) + lo ≤ R0.locals) (hcell : k + mc ≤ R0.cells ∧ n + ms ≤ R0.slots)
    (kx : ∀ E x', Post (.error E) x' → XT φ (I x') (k + mc) (n + ms) pc L E) (kk : ∀ r x', Post (.ok r) x' → X φ (I x') (k + mc) (n + ms) (pc + 3) L (r.toList ++ rest)) : X φ (I x) k n pc L st0 := by
  obtain ⟨p, l, e, R, s, m, args, below, meth, c, A, nL, D, Q⟩ := φ
  obtain ⟨hx, hb, hr, hml, hown, hts, hlocks, hK, hA, hstk, hE⟩ := C
  subst hst0
  have hR : R = R0 := hR0
  subst hR
  intro H locs ws cells slots ls c1 c2 hI hP hD hS hl
  have hgood : GoodIn wsL_law (va_wsS own idx y (Cond.code y b maxL rt :: wsL_law)) := goodIn_sub (fun w hw => by
    rcases List.mem_append.mp hw with h | h
    · simp only [List.mem_cons, List.not_mem_nil, or_false] at h
      rcases h with rfl | rfl | rfl
      · exact hlink
      · exact hV
      · exact hB.2.1
    · rcases List.mem_cons.mp h with rfl | h
      · exact hB.1
      · exact h) (List.all_eq_true.mpr fun w hw => by
    rcases List.mem_append.mp hw with h | h
    · simp only [List.mem_cons, List.not_mem_nil, or_false] at h
      rcases h with rfl | rfl | rfl
      · exact ugood1 _ hlink
      · exact ugood1 _ hV
      · exact ugood1 _ hB.2.1
    · rcases List.mem_cons.mp h with rfl | h
      · exact ugood1 _ hB.1
      · exact ugood1 _ h)
  refine X_after (vx_runS (cc := cc) (As := as) (rest := rest) (index := idx) (own := own) (nL := nL) ⟨hx, hb, hml, hown, hts⟩ (hM H.size ws hI) (va_cwS np hts hgood rfl rfl rfl ⟨hB.2.2.1, hB.2.2.2.1, hB.2.2.2.2⟩ hroom) ⟨CtPre.blind, CtPre.start hP hD hS hA hK hE⟩ rfl hlen hl.1 rfl (lv_room hst) hd ⟨by omega, by omega⟩) hS (va_A_of hD hS hA) c1 c2 hl kx kk
end CallS8

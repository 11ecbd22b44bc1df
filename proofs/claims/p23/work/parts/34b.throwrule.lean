theorem x_throwS {φ : Fx} {k n pc : Nat} {L : List (Nat × Value)} {st : List Value} {cc : ByteArray} {ret : Option FieldType} {cy : CY} {σ : Type} {I : σ → va_W → Prop} {Post : Except String (Option Value) → σ → Prop} {mc ms fr lo : Nat} {x : σ} {ik is ic : Nat} {cls text : String}
    (C : Cx φ cc RX6 ret cy) (hR : RetOK φ I Post mc ms) (hRm : ROf φ = { frames := fr, cells := mc, slots := ms, locals := lo }) (hT : thW ik ic cls) (hstr : (is, text) ∈ STRS)
    (d0 : decode cc pc = .ok (.new ik, 3)) (d3 : decode cc (pc + 3) = .ok (.dup, 1)) (d4 : decode cc (pc + 4) = .ok (.ldc is, 2)) (d6 : decode cc (pc + 6) = .ok (.invokespecial ic, 3)) (d9 : decode cc (pc + 9) = .ok (.athrow, 1))
    (hfr : 6 ≤ fr) (hlo : (st.map fun v => v.category).sum + 82 ≤ lo) (hk : k + 1 ≤ mc) (hn : n + 6 ≤ ms) (hp : Post (.error cls) x) : X φ (I x) k n pc L st := by
  obtain ⟨p, l, e, R, s, m, args, below, meth, c, A, nL, D, Q⟩ := φ
  obtain ⟨hx, hb, hr, hml, hown, hts, hlocks, hK, hA, hl0, hE⟩ := C
  obtain ⟨htb, w0, sz, hsz, rfl, rfl⟩ := hR
  obtain ⟨⟨t1, t2, t3⟩, t4, t5⟩ := hT
  have hRm : R = { frames := fr, cells := mc, slots := ms, locals := lo } := hRm
  intro H locs ws cells slots ls c1 c2 hI hP hD hS hl
  obtain ⟨sa, hsa⟩ := hE.2.2.1 _ hstr
  refine vx_throwS (names := RTN) (rest := st) hx hb hl0 hown t1 (by decide +kernel) (hts _ t2) (hts _ t3) hsa (t5 args s hts) t4 hE.1 hE.2.1 hS (hl.1.trans hml.symm) d0 d3 d4 d6 d9 (fun z hz => (htb z hz).elim)
    (by rw [hRm]; exact hfr) (by rw [hRm]; exact hlo) (by rw [hRm]; exact Nat.le_trans (Nat.add_le_add_right c1 1) hk) (by rw [hRm]; exact Nat.le_trans (Nat.add_le_add_right c2 6) hn) hlocks ?_ hS.2.2 (Nat.le_trans (Nat.add_le_add_right c1 1) hk) (Nat.le_trans (Nat.add_le_add_right c2 6) hn)
  intro t hal hsz2 hq
  exact ⟨x, ws, hp, hI, fun i q h => (hP i q h).kept (hq q.1 (hP i q h).lt), hD, ⟨Nat.le_trans hS.1 hsz2, fun q h1 h2 => (hq q (Nat.lt_of_lt_of_le h1 hS.1)).trans (hS.2.1 q h1 h2)⟩⟩
theorem x_throwSW {φ : Fx} {k n pc : Nat} {L : List (Nat × Value)} {st : List Value} {cc : ByteArray} {ret : Option FieldType} {cy : CY} {σ : Type} {I : σ → va_W → Prop} {Post : Except String (Option Value) → σ → Prop} {mc ms fr lo : Nat} {x : σ} {ik is ic : Nat} {cls text : String}
    (C : Cx φ cc RX6 ret cy) (hR : RetOK φ I Post mc ms) (hRm : ROf φ = { frames := fr, cells := mc, slots := ms, locals := lo }) (hT : thW ik ic cls) (hstr : (is, text) ∈ STRS)
    (d0 : decode cc pc = .ok (.new ik, 3)) (d3 : decode cc (pc + 3) = .ok (.dup, 1)) (d4 : decode cc (pc + 4) = .ok (.ldc_w is, 3)) (d7 : decode cc (pc + 7) = .ok (.invokespecial ic, 3)) (d10 : decode cc (pc + 10) = .ok (.athrow, 1))
    (hfr : 6 ≤ fr) (hlo : (st.map fun v => v.category).sum + 82 ≤ lo) (hk : k + 1 ≤ mc) (hn : n + 6 ≤ ms) (hp : Post (.error cls) x) : X φ (I x) k n pc L st := by
  obtain ⟨p, l, e, R, s, m, args, below, meth, c, A, nL, D, Q⟩ := φ
  obtain ⟨hx, hb, hr, hml, hown, hts, hlocks, hK, hA, hl0, hE⟩ := C
  obtain ⟨htb, w0, sz, hsz, rfl, rfl⟩ := hR
  obtain ⟨⟨t1, t2, t3⟩, t4, t5⟩ := hT
  have hRm : R = { frames := fr, cells := mc, slots := ms, locals := lo } := hRm
  intro H locs ws cells slots ls c1 c2 hI hP hD hS hl
  obtain ⟨sa, hsa⟩ := hE.2.2.1 _ hstr
  refine vx_throwSW (names := RTN) (rest := st) hx hb hl0 hown t1 (by decide +kernel) (hts _ t2) (hts _ t3) hsa (t5 args s hts) t4 hE.1 hE.2.1 hS (hl.1.trans hml.symm) d0 d3 d4 d7 d10 (fun z hz => (htb z hz).elim)
    (by rw [hRm]; exact hfr) (by rw [hRm]; exact hlo) (by rw [hRm]; exact Nat.le_trans (Nat.add_le_add_right c1 1) hk) (by rw [hRm]; exact Nat.le_trans (Nat.add_le_add_right c2 6) hn) hlocks ?_ hS.2.2 (Nat.le_trans (Nat.add_le_add_right c1 1) hk) (Nat.le_trans (Nat.add_le_add_right c2 6) hn)
  intro t hal hsz2 hq
  exact ⟨x, ws, hp, hI, fun i q h => (hP i q h).kept (hq q.1 (hP i q h).lt), hD, ⟨Nat.le_trans hS.1 hsz2, fun q h1 h2 => (hq q (Nat.lt_of_lt_of_le h1 hS.1)).trans (hS.2.1 q h1 h2)⟩⟩

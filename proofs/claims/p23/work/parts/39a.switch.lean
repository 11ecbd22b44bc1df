/-! A switch on 0, 1, 2 -/
theorem x_tsw3 {φ : Fx} {I : va_W → Prop} {k n pc : Nat} {L : List (Nat × Value)} {st : List Value} {cc : ByteArray} {own : String} {ret : Option FieldType} {cy : CY} {z df o0 o1 o2 : Int} {t0 t1 t2 td len : Nat} (C : Cx φ cc own ret cy) (hd : decode cc pc = .ok (.tableswitch df 0 2 #[o0, o1, o2], len)) (h0 : (pc : Int) + o0 = (t0 : Int)) (h1 : (pc : Int) + o1 = (t1 : Int)) (h2 : (pc : Int) + o2 = (t2 : Int)) (h3 : (pc : Int) + df = (td : Int)) (hz : 0 ≤ z ∧ z ≤ 3)
    (k0 : z = 0 → X φ I k n t0 L st) (k1 : z = 1 → X φ I k n t1 L st) (k2 : z = 2 → X φ I k n t2 L st) (k3 : z = 3 → X φ I k n td L st) : X φ I k n pc L (vi z :: st) := by
  obtain ⟨p, l, e, R, s, m, args, below, meth, c, A, nL, D, Q⟩ := φ
  obtain ⟨hx, hb, -⟩ := C
  intro H locs ws cells slots ls c1 c2 hI hP hD hS hl
  have hzi : (Int32.ofInt z).toInt = z := Int32.toInt_ofInt_of_le (by omega) (by omega)
  intro T hT Y
  have hin : ∀ {off : Int} {tgt : Nat}, (pc : Int) + off = (tgt : Int) → z ≤ 2 → (#[o0, o1, o2] : Array Int)[(z - 0).toNat]? = some off → X (p, l, e, R, s, m, args, below, meth, c, A, nL, D, Q) I k n tgt L st → ∃ t, Steps p.tables e below (T.setTop (F0 m pc ls (vi z :: st))) t ∧ Q t := by
    intro off tgt ht hz2 hoff kk
    obtain ⟨t, a, b⟩ := kk H locs ws cells slots ls c1 c2 hI hP hD hS hl T hT Y
    refine ⟨t, ?_, b⟩
    refine Stand.tableswitchIn Y hx (g := F0 m pc ls (vi z :: st)) rfl (k := Int32.ofInt z) (rest := st) rfl (by rw [hb]; exact hd) (by rw [hzi]; omega) (by rw [hzi]; exact hoff) (by show 0 ≤ (pc : Int) + off; omega) t ?_
    show Steps p.tables e below (T.setTop (F0 m ((pc : Int) + off).toNat ls st)) t
    rw [show ((pc : Int) + off).toNat = tgt by omega]
    exact a
  rcases (show z = 0 ∨ z = 1 ∨ z = 2 ∨ z = 3 by omega) with hz9 | hz9 | hz9 | hz9
  · exact hin h0 (by omega) (by rw [hz9]; rfl) (k0 hz9)
  · exact hin h1 (by omega) (by rw [hz9]; rfl) (k1 hz9)
  · exact hin h2 (by omega) (by rw [hz9]; rfl) (k2 hz9)
  · obtain ⟨t, a, b⟩ := k3 hz9 H locs ws cells slots ls c1 c2 hI hP hD hS hl T hT Y
    refine ⟨t, ?_, b⟩
    refine Stand.tableswitchOut Y hx (g := F0 m pc ls (vi z :: st)) rfl (k := Int32.ofInt z) (rest := st) rfl (by rw [hb]; exact hd) (by rw [hzi]; omega) (by show 0 ≤ (pc : Int) + df; omega) t ?_
    show Steps p.tables e below (T.setTop (F0 m ((pc : Int) + df).toNat ls st)) t
    rw [show ((pc : Int) + df).toNat = td by omega]
    exact a

set_option maxRecDepth 100000 in
theorem whole_start {p : Program} {e : Env} {s : State} {m : MethodId} {below : List Frame} {meth : Method} {c : Code} (l : Launch) (hflags : l.flags = flags0) {b L : Nat} {xs : Nat → Int32} (hL : L ≤ 260) (C0 : lw_At p s m meth c b L xs) : W p l e room_1 s m #[Value.ref b] below meth c s.heap [] 0 0 (lw_Z below #[Value.ref b] s) (entryFrame m ([Value.ref b] : List Value).toArray 19) := by
  obtain ⟨hx, hb, hr, hml, hown, hts, hX, hbl, hlocks, hgv⟩ := C0
  obtain ⟨D, cy, hK⟩ := st_K hts
  have hE := st_EN hts hgv
  have hst : l.stackTraces = false := by
    unfold Launch.stackTraces
    rw [hflags]
    decide +kernel
  have hW := law_entry (φ := (p, l, e, room_1, s, m, #[Value.ref b], below, meth, c, (fun q : Nat => s.heap.size ≤ q), 19, D, lw_Z below #[Value.ref b] s)) (cy := cy) (bs := b) (Ls := L) (xs := xs) ⟨hx, hb, hr, hml, hown, fun w h => hts w (wsL_law_in w h), hlocks, hK, fun _ h => h, hst, hE⟩ ⟨rfl, b, rfl, rfl, rfl⟩ rfl rfl ⟨hX, hbl, Nat.not_le.mpr hbl⟩ hL
  have hl := lv_entry ([.ref b]) (n := 19) (Nat.le_of_ble_eq_true rfl)
  rw [lg_entry_eq]
  generalize (lg_sl ([.ref b]) ++ List.replicate (19 - (lg_sl ([.ref b])).length) Slot.unset).toArray = ls at hl ⊢
  have hl : lv_has ls 19 [(0, .ref b)] := hl
  exact hW s.heap [] [] 0 0 ls (Nat.le_refl _) (Nat.le_refl _) (repE cy) (fun k q h => by simp at h) ⟨fun i j p q h => by simp at h, fun k q h => by simp at h⟩ va_S.rf ⟨hl.1, hl.2.1, fun i v hv => by
    have hm := lk_mem _ _ _ hv
    have e := List.mem_singleton.mp hm
    cases e
    exact ⟨hl.2.2 _ List.mem_cons_self, rfl⟩⟩

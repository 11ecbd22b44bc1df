/-! What holds at the law's entry -/
theorem st_none (c : ClassId) (n : Nat) (z : Nat → Value) : ∀ k, (arrV c n z).vm ≠ .statics k := fun k => by
  simp [arrV]
theorem st_arr {s : State} {args : Array Value} {ty : FieldType} (h : (Cond.arrayClass ty).before args s = true) (hr : ∀ c : ClassId, s.vm.findClass ("[" ++ ty.toString) = some c → va_RA s c ty) : ∃ cA : ClassId, ArrOfT s cA ty ∧ va_RA s cA ty := by
  obtain ⟨c, k, comp, h1, h2, h3⟩ := Cond.arrayClass_spec h
  exact ⟨c, fun n z => ⟨st_none c n z, k, h2, comp, h3⟩, hr c h1⟩
theorem st_arrO {s : State} {args : Array Value} {nm : String} (h : (Cond.arrayOver (.object nm)).before args s = true) : ∃ cA : ClassId, ArrOfT s cA (.object nm) ∧ va_RA s cA (.object nm) := by
  obtain ⟨comp, c, k, h1, h2, h3, h4, h5⟩ := Cond.arrayOver_spec h
  exact ⟨c, fun n z => ⟨st_none c n z, k, h3, comp, h4⟩, k, comp, h3, h4, h1, h5⟩
theorem st_str {s : State} {args : Array Value} {own tx : String} {k : Nat} (h1 : (Cond.stringRef own k tx).before args s = true) (h2 : (Cond.exactly (.string own k) "java/lang/String").before args s = true) : ∃ a : Nat, vk_R own k tx a s := by
  obtain ⟨a, c, cell, kA, ha, -⟩ := Cond.exactly_spec h2
  exact ⟨a, vk_R.of h1 ha⟩
set_option maxRecDepth 100000 in
theorem st_strs : ∀ q ∈ STRS, Cond.stringRef RX6 q.1 q.2 ∈ lw_tbl ∧ Cond.exactly (.string RX6 q.1) "java/lang/String" ∈ flatC (Jvm.Cond.and given_1 narrow_1) := by decide +kernel
set_option maxRecDepth 100000 in
theorem st_nws : ∀ w ∈ NWS, w.onTables = true ∧ w ∈ lw_tbl := by decide +kernel
set_option maxRecDepth 100000 in
theorem st_ncs : ∀ q ∈ NCS, Cond.not (.castable q.1 q.2) ∈ flatC (Jvm.Cond.and given_1 narrow_1) := fun q hq => by cases hq
set_option maxRecDepth 100000 in
theorem st_us : Cond.laysStatic Bundle.tN "UNASSIGNED_STACK" Bundle.steD ∈ lw_tbl ∧ Cond.laysStatic Bundle.tN "SUPPRESSED_SENTINEL" Bundle.listD ∈ lw_tbl ∧ Cond.initialized Bundle.tN ∈ lw_tbl ∧ Cond.isRef (.static Bundle.tN "UNASSIGNED_STACK" Bundle.steD) ∈ flatC (Jvm.Cond.and given_1 narrow_1) ∧ Cond.isRef (.static Bundle.tN "SUPPRESSED_SENTINEL" Bundle.listD) ∈ flatC (Jvm.Cond.and given_1 narrow_1) := by decide +kernel
set_option maxRecDepth 100000 in
theorem st_ov : Cond.arrayOver (.object "VisitorLoom$Change") ∈ lw_tbl ∧ Cond.arrayOver (.object "VisitorLoom$Node") ∈ lw_tbl := by decide +kernel
theorem st_K {s : State} {args : Array Value} (hts : ∀ w ∈ lw_tbl, w.before args s = true) : ∃ (D : va_G) (cy : CY), va_K D vwCl (TYS cy) s := by
  have htl : ∀ w ∈ wsL_law, w.before args s = true := fun w h => hts w (wsL_law_in w h)
  obtain ⟨c0, i0, k0⟩ := u_known (C := RX0) (T := TX0) (N := 3) (n := 3) hts inX0 (htl _ u10_6)
  obtain ⟨c1, i1, k1⟩ := u_known (C := RX1) (T := TX1) (N := 9) (n := 9) hts inX1 (htl _ u4_10)
  obtain ⟨c2, i2, k2⟩ := u_known (C := RX2) (T := TX2) (N := 2) (n := 2) hts inX2 (htl _ u0_20)
  obtain ⟨c3, i3, k3⟩ := u_known (C := RX3) (T := TX3) (N := 7) (n := 7) hts inX3 (htl _ u2_4)
  obtain ⟨c4, i4, k4⟩ := u_known (C := RX4) (T := TX4) (N := 7) (n := 7) hts inX4 (htl _ u0_15)
  obtain ⟨c5, i5, k5⟩ := u_known (C := RX5) (T := TX5) (N := 5) (n := 5) hts inX5 (htl _ u1_0)
  obtain ⟨c6, i6, k6⟩ := u_known (C := RX6) (T := TX6) (N := 12) (n := 12) hts inX6 (htl _ u0_1)
  obtain ⟨a0, b0, r0⟩ := st_arr (ty := .int) (htl _ u0_4) (fun c e => e)
  obtain ⟨a1, b1, r1⟩ := st_arr (ty := .boolean) (htl _ u0_17) (fun c e => e)
  obtain ⟨a2, b2, r2⟩ := st_arrO (hts _ st_ov.1)
  obtain ⟨a3, b3, r3⟩ := st_arrO (hts _ st_ov.2)
  obtain ⟨a4, b4, r4⟩ := st_arr (ty := .long) (htl _ u0_3) (fun c e => e)
  refine ⟨(fun k => [c0, c1, c2, c3, c4, c5, c6].getD k c0, fun k => [i0, i1, i2, i3, i4, i5, i6].getD k i0), (a0, a1, a2, a3, a4), fun k q hq => ?_, fun k q hq => ?_⟩
  · match k, hq with
    | 0, hq => cases hq; exact k0
    | 1, hq => cases hq; exact k1
    | 2, hq => cases hq; exact k2
    | 3, hq => cases hq; exact k3
    | 4, hq => cases hq; exact k4
    | 5, hq => cases hq; exact k5
    | 6, hq => cases hq; exact k6
    | k + 7, hq => cases hq
  · match k, hq with
    | 0, hq => cases hq; exact ⟨b0, r0⟩
    | 1, hq => cases hq; exact ⟨b1, r1⟩
    | 2, hq => cases hq; exact ⟨b2, r2⟩
    | 3, hq => cases hq; exact ⟨b3, r3⟩
    | 4, hq => cases hq; exact ⟨b4, r4⟩
    | k + 5, hq => cases hq
theorem st_EN {s : State} {args : Array Value} (hts : ∀ w ∈ lw_tbl, w.before args s = true) (hgv : (Jvm.Cond.and given_1 narrow_1).before args s = true) : EN (fun q : Nat => s.heap.size ≤ q) s s.heap := by
  have hf := flat_of_before _ hgv
  have hA : ∀ a : Nat, a < s.heap.size → ¬ (fun q : Nat => s.heap.size ≤ q) a := fun a h => Nat.not_le.mpr h
  obtain ⟨w1, w2, w3, w4, w5⟩ := st_us
  refine ⟨vx_Zqof (hts _ w1) (hts _ w3) (hf _ w4) hA, vx_Zqof (hts _ w2) (hts _ w3) (hf _ w5) hA, fun q hq => ?_, va_AO.of (hts _ st_ov.1), va_AO.of (hts _ st_ov.2), fun w hw => ?_, fun q hq => ?_⟩
  · obtain ⟨g1, g2⟩ := st_strs q hq
    exact st_str (hts _ g1) (hf _ g2)
  · obtain ⟨g1, g2⟩ := st_nws w hw
    exact va_Nw.of g1 (hts _ g2)
  · exact va_Nc.of (hf _ (st_ncs q hq))

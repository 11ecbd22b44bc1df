/-! The cutter -/
theorem fI_set_ne {h : HS} {f f' a : Nat} {z : Int} (hf : f' ≠ f) : fI (setI h f a z) f' = fI h f' := by
  funext x
  rw [fI_setI, if_neg (fun q => hf q.1)]
theorem fI_set_eq {h : HS} {f a : Nat} {z : Int} : fI (setI h f a z) f a = z := by rw [fI_setI, if_pos ⟨rfl, rfl⟩]
/-- only the cutter's rows have changed -/
def OnlyT (h h' : HS) : Prop := kD h' = kD h ∧ ln h' = ln h ∧ aI h' = aI h ∧ aR h' = aR h ∧ fP h' = fP h ∧ ∀ f, f < 50 ∨ 54 < f → fI h' f = fI h f
theorem OnlyT.rf (h : HS) : OnlyT h h := ⟨rfl, rfl, rfl, rfl, rfl, fun _ _ => rfl⟩
theorem OnlyT.tr {h h1 h2 : HS} (a : OnlyT h h1) (b : OnlyT h1 h2) : OnlyT h h2 := ⟨b.1.trans a.1, b.2.1.trans a.2.1, b.2.2.1.trans a.2.2.1, b.2.2.2.1.trans a.2.2.2.1, b.2.2.2.2.1.trans a.2.2.2.2.1, fun f x => (b.2.2.2.2.2 f x).trans (a.2.2.2.2.2 f x)⟩
theorem OnlyT.set {h : HS} {f a : Nat} {z : Int} (hf : 50 ≤ f ∧ f ≤ 54) : OnlyT h (setI h f a z) := ⟨rfl, rfl, rfl, rfl, rfl, fun f' x => fI_set_ne (by omega)⟩
theorem OnlyT.sp {h h' : HS} {A : AD} {M : MS} (a : OnlyT h h') (s : SP h A M) : SP h' A M := by
  obtain ⟨a1, a2, a3, a4, a5, a6⟩ := a
  exact s.cg a1 a2 (a6 10 (Or.inl (by decide))) (a6 13 (Or.inl (by decide))) (a6 14 (Or.inl (by decide))) (a6 15 (Or.inl (by decide))) (a6 16 (Or.inl (by decide))) (a6 40 (Or.inl (by decide))) (a6 43 (Or.inl (by decide))) (a6 44 (Or.inl (by decide))) (a6 45 (Or.inl (by decide))) (by rw [a5]) (by rw [a5]) (by rw [a5])
theorem OnlyT.vo {h h' : HS} {A : AD} (a : OnlyT h h') (v : VO h A) : VO h' A := by
  obtain ⟨a1, a2, a3, a4, a5, a6⟩ := a
  exact v.cg a1 a2 a4 (by rw [a5]) (by rw [a5]) (by rw [a5]) (by rw [a5]) (by rw [a5])
theorem OnlyT.lw {h h' : HS} {A : AD} {f : Int → Int} (a : OnlyT h h') (v : LW h A f) : LW h' A f := v.cg (by rw [a.2.2.2.2.1])
theorem OnlyT.lg {h h' : HS} {A : AD} (a : OnlyT h h') {l : List Int} {p q : Option Nat} (hh : LG h A p l q) : LG h' A p l q := LG_cong (fun e _ => by rw [a.2.2.2.2.1]) hh
theorem beg_ok {h h' : HS} {T : Nat} {m : Int} (q : h' = setI (setI (setI (setI h 50 T (fI h 50 T + 1)) 51 T m) 53 T 0) 54 T (-1)) : OnlyT h h' ∧ fI h' 50 T = fI h 50 T + 1 ∧ fI h' 51 T = m ∧ fI h' 53 T = 0 ∧ fI h' 54 T = -1 := by
  subst q
  refine ⟨(((OnlyT.set (by omega)).tr (OnlyT.set (by omega))).tr (OnlyT.set (by omega))).tr (OnlyT.set (by omega)), ?_, ?_, ?_, ?_⟩
  · rw [fI_set_ne (by decide), fI_set_ne (by decide), fI_set_ne (by decide), fI_set_eq]
  · rw [fI_set_ne (by decide), fI_set_ne (by decide), fI_set_eq]
  · rw [fI_set_ne (by decide), fI_set_eq]
  · rw [fI_set_eq]
theorem add_ok {h h' : HS} {T : Nat} {m m7 c : Int} (t54 : fI h 54 T = c) (q : h' = (if c = -1 then setI (setI (setI h 52 T m) 53 T (fI h 53 T + 1)) 54 T m7 else setI (setI h 52 T m) 53 T (fI h 53 T + 1))) : OnlyT h h' ∧ fI h' 50 T = fI h 50 T ∧ fI h' 51 T = fI h 51 T ∧ fI h' 52 T = m ∧ fI h' 53 T = fI h 53 T + 1 ∧ fI h' 54 T = (if c = -1 then m7 else c) := by
  by_cases hc : c = -1
  · rw [if_pos hc] at q
    rw [if_pos hc]
    subst q
    refine ⟨((OnlyT.set (by omega)).tr (OnlyT.set (by omega))).tr (OnlyT.set (by omega)), ?_, ?_, ?_, ?_, ?_⟩
    · rw [fI_set_ne (by decide), fI_set_ne (by decide), fI_set_ne (by decide)]
    · rw [fI_set_ne (by decide), fI_set_ne (by decide), fI_set_ne (by decide)]
    · rw [fI_set_ne (by decide), fI_set_ne (by decide), fI_set_eq]
    · rw [fI_set_ne (by decide), fI_set_eq]
    · rw [fI_set_eq]
  · rw [if_neg hc] at q
    rw [if_neg hc]
    subst q
    refine ⟨(OnlyT.set (by omega)).tr (OnlyT.set (by omega)), ?_, ?_, ?_, ?_, ?_⟩
    · rw [fI_set_ne (by decide), fI_set_ne (by decide)]
    · rw [fI_set_ne (by decide), fI_set_ne (by decide)]
    · rw [fI_set_ne (by decide), fI_set_eq]
    · rw [fI_set_eq]
    · rw [fI_set_ne (by decide), fI_set_ne (by decide)]
      exact t54
def SgF (M : MS) (h : HS) (T : Nat) (s : Seg) : Prop := fI h 51 T = tmOf M s.1 ∧ fI h 52 T = tmOf M s.2.1 ∧ fI h 53 T = s.2.2.1 ∧ fI h 54 T = s.2.2.2
/-- where the cutter stands -/
def CutQ (M : MS) (A : AD) (sl : List Seg) (wanted : Int) (h h' : HS) : Prop := OnlyT h h' ∧ ∃ be : Nat, fI h' 50 (cT A) = be ∧ be ≤ sl.length ∧ (be = 0 ∨ (be : Int) ≤ wanted + 1) ∧ (be = sl.length ∨ wanted < (be : Int)) ∧ ∀ s, 0 < be → sl[be - 1]? = some s → SgF M h' (cT A) s
theorem CutQ.mk {M : MS} {A : AD} {sl done rest : List Seg} {sg : Seg} {wanted : Int} {h h' : HS} (hO : OnlyT h h') (hb5 : fI h' 50 (cT A) = (done.length : Int) + 1) (hd : (done.length : Int) ≤ wanted) (hsl : sl = done ++ sg :: rest) (hr : rest = [] ∨ wanted < (done.length : Int) + 1) (hF : SgF M h' (cT A) sg) : CutQ M A sl wanted h h' := by
  have hlen : sl.length = done.length + (rest.length + 1) := by rw [hsl, List.length_append, List.length_cons]
  refine ⟨hO, done.length + 1, by rw [hb5]; omega, by omega, Or.inr (by omega), ?_, fun s _ hs => ?_⟩
  · rcases hr with g | g
    · subst g
      exact Or.inl (by rw [hlen]; rfl)
    · exact Or.inr (by omega)
  · rw [Nat.add_sub_cancel, hsl, List.getElem?_append_right (Nat.le_refl _), Nat.sub_self] at hs
    cases hs
    exact hF

set_option maxRecDepth 100000 in
set_option maxHeartbeats 400000 in
theorem k_X6_cutUpTo {l : Launch} {D : va_G} {cy : CY} (hst : l.stackTraces = false) {h : HS} {A : AD} {M : MS} {lz : List Int} {f : Int → Int} {k wanted : Int} (s : SP h A M) (v : VO h A) (hf : LW h A f) (hC : ChL h A lz) (hl : ∀ e ∈ lz, 0 ≤ e ∧ e < M 2 0) (hll : (lz.length : Int) ≤ 200) (hk : 0 ≤ k ∧ k < 20) (hwanted : -2147483648 ≤ wanted ∧ wanted ≤ 2147483647) : Ct l D cy yX6_cutUpTo (Cond.code yX6_cutUpTo cX6_cutUpTo 5 none) 3 63 0 0 (RepH cy) [vr (some (cO A)), vr (some (nd A k)), vi wanted] h (fun r h' => r = .ok none ∧ CutQ M A (sgs M (lz.filter (fun e => decide (f (ndOf M e) = k)))) wanted h h') := by
  refine Ct.of1 (own := RX6) hst (by decide) rfl (Nat.le_of_ble_eq_true rfl) (cat1 (vr_cat _) (cat1 (vr_cat _) (cat1 (vi_cat _) (cat0)))) ?_
  intro φ C hQ hn hR hl hD
  subst hl hD
  obtain ⟨v0, v60, v61, v62, v63, v64, vn, vnl, vnr, vm, vml, vh, vt, vw, vwl⟩ := id v
  have loopB : ∀ (t : List Int) (h1 : HS) (u : Option Nat) (fi la sz c : Int) (done : List Seg), OnlyT h h1 → fI h1 50 (cT A) = (done.length : Int) + 1 → (done.length : Int) ≤ wanted → SgF M h1 (cT A) (fi, la, sz, c) → (0 ≤ la ∧ la < M 2 0) → (0 ≤ fi ∧ fi < M 2 0) → (-1 ≤ c ∧ c ≤ 9) → 1 ≤ sz → (done.length : Int) + t.length ≤ 199 → LG h1 A u t none → (∀ e ∈ t, 0 ≤ e ∧ e < M 2 0) → sgs M (lz.filter (fun e => decide (f (ndOf M e) = k))) = done ++ sgGo M fi la sz c (t.filter (fun e => decide (f (ndOf M e) = k))) → X φ (RepH cy h1) 0 0 15 [(0, vr (some (cO A))), (1, vr (some (nd A k))), (2, vi wanted), (3, vr u)] [] := by
    intro t
    induction t with
    | nil =>
      intro h1 u fi la sz c done hO1 hb5 hd hF hla hfi hc hsz hlt hu ht hsl
      have hu : u = none := hu
      subst hu
      refine x_aload_n C dX6_cutUpTo_15 rfl rfl ?_
      refine x_ifnull (tgt := 83) C dX6_cutUpTo_16 (by decide) (fun h16 => ?_) (fun a16 h16 => ?_)
      ·
        refine x_vret C hQ dX6_cutUpTo_83 rfl (by decide) (by decide) ?_
        exact ⟨rfl, CutQ.mk hO1 hb5 hd hsl (Or.inl rfl) hF⟩
      ·
        cases h16
    | cons x t ih =>
      intro h1 u fi la sz c done hO1 hb5 hd hF hla hfi hc hsz hlt hu ht hsl
      obtain ⟨f51, f52, f53, f54⟩ := hF
      simp only [] at f51 f52 f53 f54
      obtain ⟨rfl, hu2⟩ := hu
      have s1 := hO1.sp s
      have v1 := hO1.vo v
      have hf1 := hO1.lw hf
      obtain ⟨w0, w60, w61, w62, w63, w64, wn, wnl, wnr, wm, wml, wh, wt, ww, wwl⟩ := id v1
      have hxl := ht x List.mem_cons_self
      have ht2 := fun e he => ht e (List.mem_cons_of_mem x he)
      have exk : kD h1 (ev A x) = 2 := (s1.ve x hxl.1 hxl.2).1
      obtain ⟨-, -, -, -, hcx, -⟩ := s.mi.ev x hxl.1 hxl.2
      have tx := tmOf_in s.mi hxl.1 hxl.2
  
      have tl := tmOf_in s.mi hla.1 hla.2
      rw [List.length_cons] at hlt
      by_cases hx : f (ndOf M x) = k
      · rw [List.filter_cons_of_pos (by simpa using hx)] at hsl
        by_cases hP : ((done.length : Int) + 1 = 0 ∨ 30 < tmOf M x - tmOf M la ∨ ¬ (tmOf M x).tdiv 1440 = (tmOf M la).tdiv 1440 ∨ (¬ c = -1 ∧ ¬ M 7 x = -1 ∧ ¬ M 7 x = c))
        · have hcs : cts M la x c := hP.resolve_left (by omega)
          have hcut : sgs M (lz.filter (fun e => decide (f (ndOf M e) = k))) = done ++ (fi, la, sz, c) :: sgGo M x x 1 (M 7 x) (t.filter (fun e => decide (f (ndOf M e) = k))) := by rw [hsl]; simp only [sgGo]; rw [if_pos hcs]
          refine x_aload_n C dX6_cutUpTo_15 rfl rfl ?_
          refine x_ifnull (tgt := 83) C dX6_cutUpTo_16 (by decide) (fun h16 => ?_) (fun a16 h16 => ?_)
          ·
            cases h16
          ·
            refine x_aload_n C dX6_cutUpTo_19 rfl rfl ?_
            refine x_aload_n C dX6_cutUpTo_20 rfl rfl ?_
            refine x_callV C hR cb_X1_isOf cv_X1_isOf u11_2 (k_X1_isOf hst s1 hf1 hxl hk) (h_recv exk (by decide)) ⟨_, _, rfl⟩ rfl (Nat.le_of_ble_eq_true rfl) rfl dX6_cutUpTo_21 (by decide) (by decide) (fun E x9 h9 => absurd h9.1 (by intro h; cases h)) (fun r9 x9 h9 => ?_)
            obtain ⟨e9, q9⟩ := h9
            cases e9
            subst x9
            rw [bi_t hx]
            refine x_if_eq (tgt := 75) C dX6_cutUpTo_24 (by decide) (by decide) (fun h => absurd h (by decide)) (fun _ => ?_)
            refine x_aload_n C dX6_cutUpTo_27 rfl rfl ?_
            refine h_get6 (f := 3) C w0 (by decide) u1_2 rfl rfl dX6_cutUpTo_28 ?_
            simp only [w63]
            refine x_aload_n C dX6_cutUpTo_31 rfl rfl ?_
            refine x_callV C hR cb_X5_isCutBy cv_X5_isCutBy u13_8 (k_X5_isCutBy hst s1 (be := (done.length : Int) + 1) (la := tmOf M la) (c := c) hxl wt hb5 (Or.inr f52) (Or.inr f54) (by omega) (by omega) hc) (h_recv wt (by decide)) ⟨_, _, rfl⟩ rfl (Nat.le_of_ble_eq_true rfl) rfl dX6_cutUpTo_32 (by decide) (by decide) (fun E x9 h9 => absurd h9.1 (by intro h; cases h)) (fun r9 x9 h9 => ?_)
            obtain ⟨e9, q9⟩ := h9
            cases e9
            subst x9
            rw [bi_t hP]
            refine x_istore C dX6_cutUpTo_35 (by rw [hn]; exact Nat.le_of_ble_eq_true rfl) ?_
            refine x_iload C dX6_cutUpTo_37 rfl ?_
            refine x_if_eq (tgt := 54) C dX6_cutUpTo_39 (by decide) (by decide) (fun h => absurd h (by decide)) (fun _ => ?_)
            refine x_aload_n C dX6_cutUpTo_42 rfl rfl ?_
            refine h_get6 (f := 3) C w0 (by decide) u1_2 rfl rfl dX6_cutUpTo_43 ?_
            simp only [w63]
            refine h_get5 (f := 0) C wt (by decide) u12_18 rfl rfl dX6_cutUpTo_46 ?_
            simp only [hb5]
            refine x_iload_n C dX6_cutUpTo_49 rfl rfl ?_
            refine x_icmp_le (tgt := 54) C dX6_cutUpTo_50 (by decide) (by omega) (by omega) (fun h50 => ?_) (fun h50 => ?_)
            ·
              refine x_iload C dX6_cutUpTo_54 rfl ?_
              refine x_if_eq (tgt := 67) C dX6_cutUpTo_56 (by decide) (by decide) (fun h => absurd h (by decide)) (fun _ => ?_)
              refine x_aload_n C dX6_cutUpTo_59 rfl rfl ?_
              refine h_get6 (f := 3) C w0 (by decide) u1_2 rfl rfl dX6_cutUpTo_60 ?_
              simp only [w63]
              refine x_aload_n C dX6_cutUpTo_63 rfl rfl ?_
              refine x_callV C hR cb_X5_begin cv_X5_begin u13_16 (k_X5_begin hst s1 hxl wt) (h_recv wt (by decide)) ⟨_, _, rfl⟩ rfl (Nat.le_of_ble_eq_true rfl) rfl dX6_cutUpTo_64 (by decide) (by decide) (fun E x9 h9 => absurd h9.1 (by intro h; cases h)) (fun r9 x9 h9 => ?_)
              obtain ⟨e9, q9⟩ := h9
              cases e9
              obtain ⟨hOb, b50, b51, b53, b54⟩ := beg_ok q9
              have sB := hOb.sp s1
              have vB := hOb.vo v1
              obtain ⟨b0, -, -, -, b63, -, -, -, -, -, -, -, bT, -⟩ := vB
              refine x_aload_n C dX6_cutUpTo_67 rfl rfl ?_
              refine h_get6 (f := 3) C b0 (by decide) u1_2 rfl rfl dX6_cutUpTo_68 ?_
              simp only [b63]
              refine x_aload_n C dX6_cutUpTo_71 rfl rfl ?_
              refine x_callV C hR cb_X5_add cv_X5_add u13_22 (k_X5_add hst sB (c := -1) hxl bT b54 (by omega)) (h_recv bT (by decide)) ⟨_, _, rfl⟩ rfl (Nat.le_of_ble_eq_true rfl) rfl dX6_cutUpTo_72 (by decide) (by decide) (fun E x9 h9 => absurd h9.1 (by intro h; cases h)) (fun r9 x9 h9 => ?_)
              obtain ⟨e9, q9⟩ := h9
              cases e9
              obtain ⟨hOa, a50, a51, a52, a53, a54⟩ := add_ok b54 q9
              have ek9 : kD x9 (ev A x) = 2 := by rw [hOa.1, hOb.1]; exact exk
              refine x_aload_n C dX6_cutUpTo_75 rfl rfl ?_
              refine h_get1 (f := 8) C ek9 (by decide) u8_3 rfl rfl dX6_cutUpTo_76 ?_
              refine x_astore_n C dX6_cutUpTo_79 rfl (by rw [hn]; exact Nat.le_of_ble_eq_true rfl) ?_
              refine x_goto (tgt := 15) C dX6_cutUpTo_80 (by decide) ?_
              exact X.to (ih x9 _ x x 1 (M 7 x) (done ++ [(fi, la, sz, c)]) ((hO1.tr hOb).tr hOa) (by rw [a50, b50, hb5]; rw [List.length_append, List.length_singleton]; omega) (by rw [List.length_append, List.length_singleton]; omega) ⟨a51.trans b51, a52, by rw [a53, b53]; rfl, by rw [a54, if_pos rfl]⟩ hxl hxl (by omega) (by omega) (by rw [List.length_append, List.length_singleton]; omega) (by rw [hOa.2.2.2.2.1, hOb.2.2.2.2.1]; exact hOa.lg (hOb.lg hu2)) ht2 (by rw [hcut, List.append_assoc]; rfl)) (lsc rfl (lsc rfl (lsc rfl (lsc rfl (lsn)))))
            ·
              refine x_vret C hQ dX6_cutUpTo_53 rfl (by decide) (by decide) ?_
              exact ⟨rfl, CutQ.mk hO1 hb5 hd hcut (Or.inr (by omega)) ⟨f51, f52, f53, f54⟩⟩
        · have hcs : ¬ cts M la x c := fun q => hP (Or.inr q)
          have hon : sgs M (lz.filter (fun e => decide (f (ndOf M e) = k))) = done ++ sgGo M fi x (sz + 1) (if c = -1 then M 7 x else c) (t.filter (fun e => decide (f (ndOf M e) = k))) := by rw [hsl]; simp only [sgGo]; rw [if_neg hcs]
          have hc2 : -1 ≤ (if c = -1 then M 7 x else c) ∧ (if c = -1 then M 7 x else c) ≤ 9 := by split <;> omega
          refine x_aload_n C dX6_cutUpTo_15 rfl rfl ?_
          refine x_ifnull (tgt := 83) C dX6_cutUpTo_16 (by decide) (fun h16 => ?_) (fun a16 h16 => ?_)
          ·
            cases h16
          ·
            refine x_aload_n C dX6_cutUpTo_19 rfl rfl ?_
            refine x_aload_n C dX6_cutUpTo_20 rfl rfl ?_
            refine x_callV C hR cb_X1_isOf cv_X1_isOf u11_2 (k_X1_isOf hst s1 hf1 hxl hk) (h_recv exk (by decide)) ⟨_, _, rfl⟩ rfl (Nat.le_of_ble_eq_true rfl) rfl dX6_cutUpTo_21 (by decide) (by decide) (fun E x9 h9 => absurd h9.1 (by intro h; cases h)) (fun r9 x9 h9 => ?_)
            obtain ⟨e9, q9⟩ := h9
            cases e9
            subst x9
            rw [bi_t hx]
            refine x_if_eq (tgt := 75) C dX6_cutUpTo_24 (by decide) (by decide) (fun h => absurd h (by decide)) (fun _ => ?_)
            refine x_aload_n C dX6_cutUpTo_27 rfl rfl ?_
            refine h_get6 (f := 3) C w0 (by decide) u1_2 rfl rfl dX6_cutUpTo_28 ?_
            simp only [w63]
            refine x_aload_n C dX6_cutUpTo_31 rfl rfl ?_
            refine x_callV C hR cb_X5_isCutBy cv_X5_isCutBy u13_8 (k_X5_isCutBy hst s1 (be := (done.length : Int) + 1) (la := tmOf M la) (c := c) hxl wt hb5 (Or.inr f52) (Or.inr f54) (by omega) (by omega) hc) (h_recv wt (by decide)) ⟨_, _, rfl⟩ rfl (Nat.le_of_ble_eq_true rfl) rfl dX6_cutUpTo_32 (by decide) (by decide) (fun E x9 h9 => absurd h9.1 (by intro h; cases h)) (fun r9 x9 h9 => ?_)
            obtain ⟨e9, q9⟩ := h9
            cases e9
            subst x9
            rw [bi_f hP]
            refine x_istore C dX6_cutUpTo_35 (by rw [hn]; exact Nat.le_of_ble_eq_true rfl) ?_
            refine x_iload C dX6_cutUpTo_37 rfl ?_
            refine x_if_eq (tgt := 54) C dX6_cutUpTo_39 (by decide) (by decide) (fun _ => ?_) (fun h => absurd h (by decide))
            refine x_iload C dX6_cutUpTo_54 rfl ?_
            refine x_if_eq (tgt := 67) C dX6_cutUpTo_56 (by decide) (by decide) (fun _ => ?_) (fun h => absurd h (by decide))
            refine x_aload_n C dX6_cutUpTo_67 rfl rfl ?_
            refine h_get6 (f := 3) C w0 (by decide) u1_2 rfl rfl dX6_cutUpTo_68 ?_
            simp only [w63]
            refine x_aload_n C dX6_cutUpTo_71 rfl rfl ?_
            refine x_callV C hR cb_X5_add cv_X5_add u13_22 (k_X5_add hst s1 (c := c) hxl wt f54 hc) (h_recv wt (by decide)) ⟨_, _, rfl⟩ rfl (Nat.le_of_ble_eq_true rfl) rfl dX6_cutUpTo_72 (by decide) (by decide) (fun E x9 h9 => absurd h9.1 (by intro h; cases h)) (fun r9 x9 h9 => ?_)
            obtain ⟨e9, q9⟩ := h9
            cases e9
            obtain ⟨hOa, a50, a51, a52, a53, a54⟩ := add_ok f54 q9
            have ek9 : kD x9 (ev A x) = 2 := by rw [hOa.1]; exact exk
            refine x_aload_n C dX6_cutUpTo_75 rfl rfl ?_
            refine h_get1 (f := 8) C ek9 (by decide) u8_3 rfl rfl dX6_cutUpTo_76 ?_
            refine x_astore_n C dX6_cutUpTo_79 rfl (by rw [hn]; exact Nat.le_of_ble_eq_true rfl) ?_
            refine x_goto (tgt := 15) C dX6_cutUpTo_80 (by decide) ?_
            exact X.to (ih x9 _ fi x (sz + 1) (if c = -1 then M 7 x else c) done (hO1.tr hOa) (by rw [a50, hb5]) hd ⟨a51.trans f51, a52, by rw [a53, f53], a54⟩ hxl hfi hc2 (by omega) (by omega) (by rw [hOa.2.2.2.2.1]; exact hOa.lg hu2) ht2 hon) (lsc rfl (lsc rfl (lsc rfl (lsc rfl (lsn)))))
      ·
        refine x_aload_n C dX6_cutUpTo_15 rfl rfl ?_
        refine x_ifnull (tgt := 83) C dX6_cutUpTo_16 (by decide) (fun h16 => ?_) (fun a16 h16 => ?_)
        ·
          cases h16
        ·
          refine x_aload_n C dX6_cutUpTo_19 rfl rfl ?_
          refine x_aload_n C dX6_cutUpTo_20 rfl rfl ?_
          refine x_callV C hR cb_X1_isOf cv_X1_isOf u11_2 (k_X1_isOf hst s1 hf1 hxl hk) (h_recv exk (by decide)) ⟨_, _, rfl⟩ rfl (Nat.le_of_ble_eq_true rfl) rfl dX6_cutUpTo_21 (by decide) (by decide) (fun E x9 h9 => absurd h9.1 (by intro h; cases h)) (fun r9 x9 h9 => ?_)
          obtain ⟨e9, q9⟩ := h9
          cases e9
          subst x9
          rw [bi_f hx]
          refine x_if_eq (tgt := 75) C dX6_cutUpTo_24 (by decide) (by decide) (fun _ => ?_) (fun h => absurd h (by decide))
          refine x_aload_n C dX6_cutUpTo_75 rfl rfl ?_
          refine h_get1 (f := 8) C exk (by decide) u8_3 rfl rfl dX6_cutUpTo_76 ?_
          refine x_astore_n C dX6_cutUpTo_79 rfl (by rw [hn]; exact Nat.le_of_ble_eq_true rfl) ?_
          refine x_goto (tgt := 15) C dX6_cutUpTo_80 (by decide) ?_
          exact X.to (ih h1 _ fi la sz c done hO1 hb5 hd ⟨f51, f52, f53, f54⟩ hla hfi hc hsz (by omega) hu2 ht2 (by rw [hsl, List.filter_cons_of_neg (by simpa using hx)])) (lsc rfl (lsc rfl (lsc rfl (lsc rfl (lsn)))))
  have loopA : ∀ (t : List Int) (h1 : HS) (u : Option Nat), OnlyT h h1 → fI h1 50 (cT A) = 0 → (t.length : Int) ≤ 200 → LG h1 A u t none → (∀ e ∈ t, 0 ≤ e ∧ e < M 2 0) → sgs M (lz.filter (fun e => decide (f (ndOf M e) = k))) = sgs M (t.filter (fun e => decide (f (ndOf M e) = k))) → X φ (RepH cy h1) 0 0 15 [(0, vr (some (cO A))), (1, vr (some (nd A k))), (2, vi wanted), (3, vr u)] [] := by
    intro t
    induction t with
    | nil =>
      intro h1 u hO1 hb5 hlt hu ht hsl
      have hu : u = none := hu
      subst hu
      refine x_aload_n C dX6_cutUpTo_15 rfl rfl ?_
      refine x_ifnull (tgt := 83) C dX6_cutUpTo_16 (by decide) (fun h16 => ?_) (fun a16 h16 => ?_)
      ·
        refine x_vret C hQ dX6_cutUpTo_83 rfl (by decide) (by decide) ?_
        exact ⟨rfl, hO1, 0, hb5, Nat.zero_le _, Or.inl rfl, Or.inl (by rw [hsl]; rfl), fun s q => absurd q (by decide)⟩
      ·
        cases h16
    | cons x t ih =>
      intro h1 u hO1 hb5 hlt hu ht hsl
      obtain ⟨rfl, hu2⟩ := hu
      have s1 := hO1.sp s
      have v1 := hO1.vo v
      have hf1 := hO1.lw hf
      obtain ⟨w0, w60, w61, w62, w63, w64, wn, wnl, wnr, wm, wml, wh, wt, ww, wwl⟩ := id v1
      have hxl := ht x List.mem_cons_self
      have ht2 := fun e he => ht e (List.mem_cons_of_mem x he)
      have exk : kD h1 (ev A x) = 2 := (s1.ve x hxl.1 hxl.2).1
      obtain ⟨-, -, -, -, hcx, -⟩ := s.mi.ev x hxl.1 hxl.2
      have tx := tmOf_in s.mi hxl.1 hxl.2
  
      rw [List.length_cons] at hlt
      by_cases hx : f (ndOf M x) = k
      · rw [List.filter_cons_of_pos (by simpa using hx)] at hsl
        have hP : ((0 : Int) = 0 ∨ 30 < tmOf M x - 0 ∨ ¬ (tmOf M x).tdiv 1440 = (0 : Int).tdiv 1440 ∨ (¬ (0 : Int) = -1 ∧ ¬ M 7 x = -1 ∧ ¬ M 7 x = 0)) := Or.inl rfl
        refine x_aload_n C dX6_cutUpTo_15 rfl rfl ?_
        refine x_ifnull (tgt := 83) C dX6_cutUpTo_16 (by decide) (fun h16 => ?_) (fun a16 h16 => ?_)
        ·
          cases h16
        ·
          refine x_aload_n C dX6_cutUpTo_19 rfl rfl ?_
          refine x_aload_n C dX6_cutUpTo_20 rfl rfl ?_
          refine x_callV C hR cb_X1_isOf cv_X1_isOf u11_2 (k_X1_isOf hst s1 hf1 hxl hk) (h_recv exk (by decide)) ⟨_, _, rfl⟩ rfl (Nat.le_of_ble_eq_true rfl) rfl dX6_cutUpTo_21 (by decide) (by decide) (fun E x9 h9 => absurd h9.1 (by intro h; cases h)) (fun r9 x9 h9 => ?_)
          obtain ⟨e9, q9⟩ := h9
          cases e9
          subst x9
          rw [bi_t hx]
          refine x_if_eq (tgt := 75) C dX6_cutUpTo_24 (by decide) (by decide) (fun h => absurd h (by decide)) (fun _ => ?_)
          refine x_aload_n C dX6_cutUpTo_27 rfl rfl ?_
          refine h_get6 (f := 3) C w0 (by decide) u1_2 rfl rfl dX6_cutUpTo_28 ?_
          simp only [w63]
          refine x_aload_n C dX6_cutUpTo_31 rfl rfl ?_
          refine x_callV C hR cb_X5_isCutBy cv_X5_isCutBy u13_8 (k_X5_isCutBy hst s1 (be := 0) (la := 0) (c := 0) hxl wt hb5 (Or.inl rfl) (Or.inl rfl) (by omega) (by omega) (by omega)) (h_recv wt (by decide)) ⟨_, _, rfl⟩ rfl (Nat.le_of_ble_eq_true rfl) rfl dX6_cutUpTo_32 (by decide) (by decide) (fun E x9 h9 => absurd h9.1 (by intro h; cases h)) (fun r9 x9 h9 => ?_)
          obtain ⟨e9, q9⟩ := h9
          cases e9
          subst x9
          rw [bi_t hP]
          refine x_istore C dX6_cutUpTo_35 (by rw [hn]; exact Nat.le_of_ble_eq_true rfl) ?_
          refine x_iload C dX6_cutUpTo_37 rfl ?_
          refine x_if_eq (tgt := 54) C dX6_cutUpTo_39 (by decide) (by decide) (fun h => absurd h (by decide)) (fun _ => ?_)
          refine x_aload_n C dX6_cutUpTo_42 rfl rfl ?_
          refine h_get6 (f := 3) C w0 (by decide) u1_2 rfl rfl dX6_cutUpTo_43 ?_
          simp only [w63]
          refine h_get5 (f := 0) C wt (by decide) u12_18 rfl rfl dX6_cutUpTo_46 ?_
          simp only [hb5]
          refine x_iload_n C dX6_cutUpTo_49 rfl rfl ?_
          refine x_icmp_le (tgt := 54) C dX6_cutUpTo_50 (by decide) (by omega) (by omega) (fun h50 => ?_) (fun h50 => ?_)
          ·
            refine x_iload C dX6_cutUpTo_54 rfl ?_
            refine x_if_eq (tgt := 67) C dX6_cutUpTo_56 (by decide) (by decide) (fun h => absurd h (by decide)) (fun _ => ?_)
            refine x_aload_n C dX6_cutUpTo_59 rfl rfl ?_
            refine h_get6 (f := 3) C w0 (by decide) u1_2 rfl rfl dX6_cutUpTo_60 ?_
            simp only [w63]
            refine x_aload_n C dX6_cutUpTo_63 rfl rfl ?_
            refine x_callV C hR cb_X5_begin cv_X5_begin u13_16 (k_X5_begin hst s1 hxl wt) (h_recv wt (by decide)) ⟨_, _, rfl⟩ rfl (Nat.le_of_ble_eq_true rfl) rfl dX6_cutUpTo_64 (by decide) (by decide) (fun E x9 h9 => absurd h9.1 (by intro h; cases h)) (fun r9 x9 h9 => ?_)
            obtain ⟨e9, q9⟩ := h9
            cases e9
            obtain ⟨hOb, b50, b51, b53, b54⟩ := beg_ok q9
            have sB := hOb.sp s1
            have vB := hOb.vo v1
            obtain ⟨b0, -, -, -, b63, -, -, -, -, -, -, -, bT, -⟩ := vB
            refine x_aload_n C dX6_cutUpTo_67 rfl rfl ?_
            refine h_get6 (f := 3) C b0 (by decide) u1_2 rfl rfl dX6_cutUpTo_68 ?_
            simp only [b63]
            refine x_aload_n C dX6_cutUpTo_71 rfl rfl ?_
            refine x_callV C hR cb_X5_add cv_X5_add u13_22 (k_X5_add hst sB (c := -1) hxl bT b54 (by omega)) (h_recv bT (by decide)) ⟨_, _, rfl⟩ rfl (Nat.le_of_ble_eq_true rfl) rfl dX6_cutUpTo_72 (by decide) (by decide) (fun E x9 h9 => absurd h9.1 (by intro h; cases h)) (fun r9 x9 h9 => ?_)
            obtain ⟨e9, q9⟩ := h9
            cases e9
            obtain ⟨hOa, a50, a51, a52, a53, a54⟩ := add_ok b54 q9
            have ek9 : kD x9 (ev A x) = 2 := by rw [hOa.1, hOb.1]; exact exk
            refine x_aload_n C dX6_cutUpTo_75 rfl rfl ?_
            refine h_get1 (f := 8) C ek9 (by decide) u8_3 rfl rfl dX6_cutUpTo_76 ?_
            refine x_astore_n C dX6_cutUpTo_79 rfl (by rw [hn]; exact Nat.le_of_ble_eq_true rfl) ?_
            refine x_goto (tgt := 15) C dX6_cutUpTo_80 (by decide) ?_
            exact X.to (loopB t x9 _ x x 1 (M 7 x) [] ((hO1.tr hOb).tr hOa) (by rw [a50, b50, hb5]; rfl) (by rw [List.length_nil]; omega) ⟨a51.trans b51, a52, by rw [a53, b53]; rfl, by rw [a54, if_pos rfl]⟩ hxl hxl hcx (by omega) (by rw [List.length_nil]; omega) (by rw [hOa.2.2.2.2.1, hOb.2.2.2.2.1]; exact hOa.lg (hOb.lg hu2)) ht2 hsl) (lsc rfl (lsc rfl (lsc rfl (lsc rfl (lsn)))))
          ·
            refine x_vret C hQ dX6_cutUpTo_53 rfl (by decide) (by decide) ?_
            exact ⟨rfl, hO1, 0, hb5, Nat.zero_le _, Or.inl rfl, Or.inr (by omega), fun s q => absurd q (by decide)⟩
      ·
        refine x_aload_n C dX6_cutUpTo_15 rfl rfl ?_
        refine x_ifnull (tgt := 83) C dX6_cutUpTo_16 (by decide) (fun h16 => ?_) (fun a16 h16 => ?_)
        ·
          cases h16
        ·
          refine x_aload_n C dX6_cutUpTo_19 rfl rfl ?_
          refine x_aload_n C dX6_cutUpTo_20 rfl rfl ?_
          refine x_callV C hR cb_X1_isOf cv_X1_isOf u11_2 (k_X1_isOf hst s1 hf1 hxl hk) (h_recv exk (by decide)) ⟨_, _, rfl⟩ rfl (Nat.le_of_ble_eq_true rfl) rfl dX6_cutUpTo_21 (by decide) (by decide) (fun E x9 h9 => absurd h9.1 (by intro h; cases h)) (fun r9 x9 h9 => ?_)
          obtain ⟨e9, q9⟩ := h9
          cases e9
          subst x9
          rw [bi_f hx]
          refine x_if_eq (tgt := 75) C dX6_cutUpTo_24 (by decide) (by decide) (fun _ => ?_) (fun h => absurd h (by decide))
          refine x_aload_n C dX6_cutUpTo_75 rfl rfl ?_
          refine h_get1 (f := 8) C exk (by decide) u8_3 rfl rfl dX6_cutUpTo_76 ?_
          refine x_astore_n C dX6_cutUpTo_79 rfl (by rw [hn]; exact Nat.le_of_ble_eq_true rfl) ?_
          refine x_goto (tgt := 15) C dX6_cutUpTo_80 (by decide) ?_
          exact X.to (ih h1 _ hO1 hb5 (by omega) hu2 ht2 (by rw [hsl, List.filter_cons_of_neg (by simpa using hx)])) (lsc rfl (lsc rfl (lsc rfl (lsc rfl (lsn)))))
  refine x_aload_n C dX6_cutUpTo_0 rfl rfl ?_
  refine h_get6 (f := 3) C v0 (by decide) u1_2 rfl rfl dX6_cutUpTo_1 ?_
  simp only [v63]
  refine x_callV C hR cb_X5_restart cv_X5_restart u13_3 (k_X5_restart (M := M) (A := A) hst vt) (h_recv vt (by decide)) ⟨_, _, rfl⟩ rfl (Nat.le_of_ble_eq_true rfl) rfl dX6_cutUpTo_4 (by decide) (by decide) (fun E x9 h9 => absurd h9.1 (by intro h; cases h)) (fun r9 x9 h9 => ?_)
  obtain ⟨e9, q9⟩ := h9
  cases e9
  have hO9 : OnlyT h x9 := by rw [q9]; exact OnlyT.set (by omega)
  have r50 : fI x9 50 (cT A) = 0 := by rw [q9]; exact fI_set_eq
  have v9 := hO9.vo v
  obtain ⟨b0, -, -, b62, b63, -, -, -, -, -, -, bh, bT, -⟩ := v9
  refine x_aload_n C dX6_cutUpTo_7 rfl rfl ?_
  refine h_get6 (f := 2) C b0 (by decide) u0_22 rfl rfl dX6_cutUpTo_8 ?_
  simp only [b62]
  refine h_get2 (f := 0) C bh (by decide) u8_1 rfl rfl dX6_cutUpTo_11 ?_
  refine x_astore_n C dX6_cutUpTo_14 rfl (by rw [hn]; exact Nat.le_of_ble_eq_true rfl) ?_
  exact X.to (loopA lz x9 _ hO9 r50 hll (by rw [hO9.2.2.2.2.1]; exact hO9.lg hC.1) hl rfl) (lsc rfl (lsc rfl (lsc rfl (lsc rfl (lsn)))))

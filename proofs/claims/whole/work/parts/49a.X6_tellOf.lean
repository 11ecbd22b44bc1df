/-! tell -/
abbrev isQ (M : MS) (f : Int → Int) (l : List Int) (g k : Int) : Prop := M 20 g ≤ cfN M f (f k) (M 18 g) (M 19 g) (M 1 0) (M 21 g) l
abbrev cgP (M : MS) (f : Int → Int) (l : List Int) (i : Nat) : Prop := ¬ bi (isQ M f l ((i / 20 : Nat) : Int) ((i % 20 : Nat) : Int)) = M 22 i
def cgL (M : MS) (f : Int → Int) (l : List Int) : Nat → List Int
  | 0 => []
  | i + 1 => if cgP M f l i then cgL M f l i ++ [chV M i] else cgL M f l i
theorem cgL_p {M : MS} {f : Int → Int} {l : List Int} {i : Nat} (h : cgP M f l i) : cgL M f l (i + 1) = cgL M f l i ++ [chV M i] := if_pos h
theorem cgL_n {M : MS} {f : Int → Int} {l : List Int} {i : Nat} (h : ¬ cgP M f l i) : cgL M f l (i + 1) = cgL M f l i := if_neg h
theorem cgL_len (M : MS) (f : Int → Int) (l : List Int) : ∀ i : Nat, (cgL M f l i).length ≤ i := by
  intro i
  induction i with
  | zero => exact Nat.le_refl _
  | succ i ih =>
    by_cases hc : cgP M f l i
    · rw [cgL_p hc, List.length_append, List.length_singleton]; omega
    · rw [cgL_n hc]; omega
abbrev tdV (M : MS) (f : Int → Int) (l : List Int) (i : Nat) (j : Int) : Int := if j < i ∧ cgP M f l j.toNat then 1 - M 22 j else M 22 j
theorem tdV_p {M : MS} {f : Int → Int} {l : List Int} {i : Nat} {j : Int} (h1 : j < i) (h2 : cgP M f l j.toNat) : tdV M f l i j = 1 - M 22 j := if_pos ⟨h1, h2⟩
theorem tdV_n {M : MS} {f : Int → Int} {l : List Int} {i : Nat} {j : Int} (h : ¬ (j < i ∧ cgP M f l j.toNat)) : tdV M f l i j = M 22 j := if_neg h
theorem tdV_s {M : MS} {f : Int → Int} {l : List Int} {i : Nat} {j : Int} (h : ¬ (j = i ∧ cgP M f l i)) : tdV M f l i j = tdV M f l (i + 1) j := by
  by_cases e2 : j < i
  · by_cases e3 : cgP M f l j.toNat
    · rw [tdV_p e2 e3, tdV_p (by omega) e3]
    · rw [tdV_n (fun q => e3 q.2), tdV_n (fun q => e3 q.2)]
  · rw [tdV_n (fun q => e2 q.1), tdV_n (fun q => h (by
      have e4 : j = i := by omega
      subst e4
      exact ⟨rfl, q.2⟩))]
/-- what was told when i pairs of a group and a node have been gone through -/
def TCs (h : HS) (A : AD) (M : MS) (f : Int → Int) (l : List Int) (i : Nat) : Prop := fI h 69 (cO A) = ((cgL M f l i).length : Int) ∧ (∀ j : Nat, j < (cgL M f l i).length → (cgL M f l i)[j]? = some (aI h (cW A) j)) ∧ ∀ g, 0 ≤ g → g < M 17 0 → BW (fI h 35 (gp A g)) (fun j => (0 ≤ j ∧ j < 20) ∧ tdV M f l i (20 * g + j) = 1)
theorem TCs.fr {h h' : HS} {A : AD} {M : MS} {f : Int → Int} {l : List Int} {i : Nat} {fi fp : List Nat} {ai ar : Nat → Prop} (t : TCs h A M f l i) (a : Fr fi fp ai ar h h') (h1 : 69 ∉ fi) (h2 : 35 ∉ fi) (h3 : ¬ ai (cW A)) : TCs h' A M f l i := ⟨by rw [a.i h1]; exact t.1, fun j hj => by rw [a.2.2.2.2.1 _ h3]; exact t.2.1 j hj, fun g g0 g1 => by rw [a.i h2]; exact t.2.2 g g0 g1⟩
theorem TCs.no {h : HS} {A : AD} {M : MS} {f : Int → Int} {l : List Int} {i : Nat} (t : TCs h A M f l i) (hc : ¬ cgP M f l i) : TCs h A M f l (i + 1) := by
  refine ⟨by rw [cgL_n hc]; exact t.1, by rw [cgL_n hc]; exact t.2.1, fun g g0 g1 => (t.2.2 g g0 g1).cong (fun j hj => ?_)⟩
  have e : tdV M f l i (20 * g + j) = tdV M f l (i + 1) (20 * g + j) := tdV_s (fun q => hc q.2)
  rw [e]
theorem TCs.yes {h h' : HS} {A : AD} {M : MS} {f : Int → Int} {l : List Int} {i : Nat} {g k : Int} (t : TCs h A M f l i) (hM : MI M) (hc : cgP M f l i) (hg : 0 ≤ g ∧ g < M 17 0) (hk : 0 ≤ k ∧ k < 20) (hi : (i : Int) = 20 * g + k) (hgi : ∀ u, 0 ≤ u → u < M 17 0 → gp A u = gp A g → u = g) (h69 : fI h' 69 (cO A) = fI h 69 (cO A) + 1) (hW : ∀ j, aI h' (cW A) j = if j = fI h 69 (cO A) then chV M i else aI h (cW A) j) (h35 : ∀ a, fI h' 35 a = if a = gp A g then bOp (· ^^^ ·) (fI h 35 (gp A g)) (bitI k) else fI h 35 a) : TCs h' A M f l (i + 1) := by
  obtain ⟨t1, t2, t3⟩ := t
  refine ⟨by rw [h69, t1, cgL_p hc, List.length_append, List.length_singleton]; rfl, fun j hj => ?_, fun u u0 u1 => ?_⟩
  · rw [cgL_p hc, List.length_append, List.length_singleton] at hj
    rw [cgL_p hc, hW, t1]
    by_cases hjl : j = (cgL M f l i).length
    · subst hjl
      rw [if_pos rfl, List.getElem?_append_right (Nat.le_refl _), Nat.sub_self]
      rfl
    · rw [if_neg (by omega), List.getElem?_append_left (by omega)]
      exact t2 j (by omega)
  · have hb := t3 u u0 u1
    rw [h35]
    by_cases hug : u = g
    · subst hug
      rw [if_pos rfl]
      obtain ⟨n, hn⟩ : ∃ n : Nat, (n : Int) = k := ⟨k.toNat, Int.toNat_of_nonneg hk.1⟩
      subst hn
      refine (bw_xor hb n (by omega)).cong (fun j hj => ?_)
      by_cases hjn : (j : Int) = n
      · have e2 : (20 * u + (j : Int)).toNat = i := by omega
        have e3 : tdV M f l i (20 * u + j) = M 22 (20 * u + j) := tdV_n (by omega)
        have e4 : tdV M f l (i + 1) (20 * u + j) = 1 - M 22 (20 * u + j) := tdV_p (by omega) (by rw [e2]; exact hc)
        rw [e3, e4]
        have h22 := hM.b22 (20 * u + j)
        omega
      · have e : tdV M f l i (20 * u + j) = tdV M f l (i + 1) (20 * u + j) := tdV_s (fun q => by have := q.1; omega)
        rw [e]
        constructor
        · rintro (q | q)
          · exact q.1
          · exact absurd q.2 hjn
        · intro q
          exact Or.inl ⟨q, hjn⟩
    · rw [if_neg (fun q => hug (hgi u u0 u1 q))]
      refine hb.cong (fun j hj => ?_)
      by_cases hj20 : (j : Int) < 20
      · have e : tdV M f l i (20 * u + j) = tdV M f l (i + 1) (20 * u + j) := tdV_s (fun q => by have := q.1; omega)
        rw [e]
      · constructor <;> (intro q; omega)
theorem cfN_cons (M : MS) (f : Int → Int) (k p kind mi days e : Int) (l : List Int) : cfN M f k p kind mi days (e :: l) = (if cfP M f k p kind mi days e then 1 else 0) + cfN M f k p kind mi days l := rfl

set_option maxRecDepth 100000 in
set_option maxHeartbeats 400000 in
theorem k_X6_tellOf {l : Launch} {D : va_G} {cy : CY} (hst : l.stackTraces = false) {h : HS} {A : AD} {M : MS} {g : Int} {lz : List Int} {f : Int → Int} {ow : Nat → Int} (s : SP h A M) (v : VO h A) (hf : LW h A f) (hC : ChL h A lz) (hO : Ord M lz) (hCN : CNs h A M ow) (h71 : fI h 71 (cO A) = M 1 0) (hg : 0 ≤ g ∧ g < M 17 0) (hgr : grpOK h A M g) (hgi : ∀ u, 0 ≤ u → u < M 17 0 → gp A u = gp A g → u = g) (hT : TCs h A M f lz (20 * g.toNat)) : Ct l D cy yX6_tellOf (Cond.code yX6_tellOf cX6_tellOf 7 none) 3 69 0 0 (RepH cy) [vr (some (cO A)), vr (some (gp A g))] h (fun r h' => r = .ok none ∧ Fr [46, 35, 69] [] (fun a => a = cW A) nA h h' ∧ TCs h' A M f lz (20 * (g.toNat + 1))) := by
  refine Ct.of1 (own := RX6) hst (by decide) rfl (Nat.le_of_ble_eq_true rfl) (cat1 (vr_cat _) (cat1 (vr_cat _) (cat0))) ?_
  intro φ C hQ hn hR hl hD
  subst hl hD
  obtain ⟨v0, v60, v61, v62, v63, v64, vn, vnl, vnr, vm, vml, vh, vt, vw, vwl⟩ := id v
  have hl : ∀ e ∈ lz, 0 ≤ e ∧ e < M 2 0 := fun e he => ((hO.2 e).mp he).1
  have hll := hO.len s.mi.n.1
  have hM2 := s.mi.n
  have hnow := s.mi.now
  have hgn := s.mi.gn
  obtain ⟨gr1, gr2, gr3, gr4⟩ := s.mi.gr g hg.1 hg.2
  have loop3 : ∀ (n : Nat) (i : Int) (h1 : HS), i + n = 20 → 0 ≤ i → Fr [46, 35, 69] [] (fun a => a = cW A) nA h h1 → (∀ k, 0 ≤ k → k < 20 → fI h1 46 (nd A k) = cfN M f k (M 18 g) (M 19 g) (M 1 0) (M 21 g) lz) → TCs h1 A M f lz (20 * g.toNat + i.toNat) → X φ (RepH cy h1) 0 0 105 [(0, vr (some (cO A))), (1, vr (some (gp A g))), (2, vr (some (cN A))), (3, vi 20), (4, vi i)] [] := by
    intro n
    induction n with
    | zero =>
      intro i h1 hi hi0 hO1 hb hT1
      have s1 := hO1.sp s
      have v1 := hO1.vo v (by unfold nA; exact id)
      obtain ⟨w0, w60, w61, w62, w63, w64, wn, wnl, wnr, wm, wml, wh, wt, ww, wwl⟩ := id v1
      obtain ⟨g0, g30, g31, g32, g33, g34⟩ := hO1.grp hgr
      refine x_iload C dX6_tellOf_105 rfl ?_
      refine x_iload_n C dX6_tellOf_107 rfl rfl ?_
      refine x_icmp_ge (tgt := 192) C dX6_tellOf_108 (by decide) (by omega) (by omega) (fun h108 => ?_) (fun h108 => ?_)
      ·
        refine x_vret C hQ dX6_tellOf_192 rfl (by decide) (by decide) ?_
        exact ⟨rfl, hO1, by rw [show 20 * (g.toNat + 1) = (20 * g.toNat + i.toNat) by omega]; exact hT1⟩
      ·
        omega
    | succ n ih =>
      intro i h1 hi hi0 hO1 hb hT1
      have s1 := hO1.sp s
      have v1 := hO1.vo v (by unfold nA; exact id)
      obtain ⟨w0, w60, w61, w62, w63, w64, wn, wnl, wnr, wm, wml, wh, wt, ww, wwl⟩ := id v1
      obtain ⟨g0, g30, g31, g32, g33, g34⟩ := hO1.grp hgr
      have hi9 : 0 ≤ i ∧ i < 20 := by omega
      obtain ⟨hnk, n40, -⟩ := s1.no i hi9.1 hi9.2
      have hf1 := hO1.lw hf
      have hfi := (hf i hi9.1 hi9.2).2
      obtain ⟨hnf, -⟩ := s1.no (f i) hfi.1 hfi.2
      have b46 := hb (f i) hfi.1 hfi.2
      have hcr := cfN_in M f (f i) (M 18 g) (M 19 g) (M 1 0) (M 21 g) lz
      have hT35 := hT1.2.2 g hg.1 hg.2
      have hlen := cgL_len M f lz (20 * g.toNat + i.toNat)
      have hT69 := hT1.1
      have q1 : ((20 * g.toNat + i.toNat) / 20 : Nat) = g.toNat := by omega
      have q2 : ((20 * g.toNat + i.toNat) % 20 : Nat) = i.toNat := by omega
      have q3 : ((g.toNat : Nat) : Int) = g := Int.toNat_of_nonneg hg.1
      have q4 : ((i.toNat : Nat) : Int) = i := Int.toNat_of_nonneg hi0
      have q5 : (((20 * g.toNat + i.toNat) : Nat) : Int) = 20 * g + i := by omega
      have h22 := s.mi.b22 (20 * g + i)
      have hcg : cgP M f lz (20 * g.toNat + i.toNat) ↔ ¬ bi (M 20 g ≤ cfN M f (f i) (M 18 g) (M 19 g) (M 1 0) (M 21 g) lz) = M 22 (20 * g + i) := by
        unfold cgP isQ
        rw [q1, q2, q3, q4, q5]
      have hcv : chV M (20 * g.toNat + i.toNat) = 100 * g + i + (if M 22 (20 * g + i) = 0 then 0 else 1000) := by
        unfold chV
        rw [q1, q2, q3, q4, q5]
      have htd : tdV M f lz (20 * g.toNat + i.toNat) (20 * g + i) = M 22 (20 * g + i) := tdV_n (by omega)
      by_cases hin : M 20 g ≤ cfN M f (f i) (M 18 g) (M 19 g) (M 1 0) (M 21 g) lz
      · rw [bi_t hin] at hcg
        by_cases hw0 : M 22 (20 * g + i) = 1
        · have hwb : bi ((0 ≤ i ∧ i < 20) ∧ tdV M f lz (20 * g.toNat + i.toNat) (20 * g + i) = 1) = 1 := bi_t ⟨hi9, by rw [htd]; exact hw0⟩
          have hnc : ¬ cgP M f lz (20 * g.toNat + i.toNat) := fun q => hcg.mp q hw0.symm
          refine x_iload C dX6_tellOf_105 rfl ?_
          refine x_iload_n C dX6_tellOf_107 rfl rfl ?_
          refine x_icmp_ge (tgt := 192) C dX6_tellOf_108 (by decide) (by omega) (by omega) (fun h108 => ?_) (fun h108 => ?_)
          ·
            omega
          ·
            refine x_aload_n C dX6_tellOf_111 rfl rfl ?_
            refine x_iload C dX6_tellOf_112 rfl ?_
            refine h_aaldN C wn (by rw [wnl]; omega) (by rw [wnl]; omega) dX6_tellOf_114 ?_
            simp only [wnr i hi9.1 hi9.2]
            refine x_astore C dX6_tellOf_115 (by rw [hn]; exact Nat.le_of_ble_eq_true rfl) ?_
            refine x_aload C dX6_tellOf_117 rfl ?_
            refine x_callV C hR cb_X4_lowest cv_X4_lowest u6_13 (k_X4_lowest hst s1 hf1 hi9) (h_recv hnk (by decide)) ⟨_, _, rfl⟩ rfl (Nat.le_of_ble_eq_true rfl) rfl dX6_tellOf_119 (by decide) (by decide) (fun E x9 h9 => absurd h9.1 (by intro h; cases h)) (fun r9 x9 h9 => ?_)
            obtain ⟨e9, q9⟩ := h9
            cases e9
            subst x9
            refine h_get4 (f := 6) C hnf (by decide) u23_16 rfl rfl dX6_tellOf_122 ?_
            simp only [b46]
            refine x_aload_n C dX6_tellOf_125 rfl rfl ?_
            refine h_get3 (f := 3) C g0 (by decide) u22_21 rfl rfl dX6_tellOf_126 ?_
            simp only [g33]
            refine x_icmp_lt (tgt := 136) C dX6_tellOf_129 (by decide) (by omega) (by omega) (fun h129 => ?_) (fun h129 => ?_)
            ·
              exfalso; omega
            ·
              refine x_iconst C dX6_tellOf_132 ?_
              refine x_goto (tgt := 137) C dX6_tellOf_133 (by decide) ?_
              refine x_istore C dX6_tellOf_137 (by rw [hn]; exact Nat.le_of_ble_eq_true rfl) ?_
              refine x_iload C dX6_tellOf_139 rfl ?_
              refine x_aload_n C dX6_tellOf_141 rfl rfl ?_
              refine x_aload C dX6_tellOf_142 rfl ?_
              refine x_callV C hR cb_X3_wasToldOf cv_X3_wasToldOf u23_18 (k_X3_wasToldOf hst s1 hi9 g0 hT35) (h_recv g0 (by decide)) ⟨_, _, rfl⟩ rfl (Nat.le_of_ble_eq_true rfl) rfl dX6_tellOf_144 (by decide) (by decide) (fun E x9 h9 => absurd h9.1 (by intro h; cases h)) (fun r9 x9 h9 => ?_)
              obtain ⟨e9, q9⟩ := h9
              cases e9
              subst x9
              rw [hwb]
              refine x_icmp_eq (tgt := 186) C dX6_tellOf_147 (by decide) (by omega) (by omega) (fun h147 => ?_) (fun h147 => ?_)
              ·
                refine x_iinc C dX6_tellOf_186 (by rw [hn]; exact Nat.le_of_ble_eq_true rfl) rfl ?_
                refine x_goto (tgt := 105) C dX6_tellOf_189 (by decide) ?_
                exact X.to (ih (i + 1) h1 (by omega) (by omega) hO1 hb (by rw [show 20 * g.toNat + (i + 1).toNat = (20 * g.toNat + i.toNat) + 1 by omega]; exact hT1.no hnc)) (lsc rfl (lsc rfl (lsc rfl (lsc rfl (lsc rfl (lsn))))))
              ·
                exfalso; omega
        · have hwb : bi ((0 ≤ i ∧ i < 20) ∧ tdV M f lz (20 * g.toNat + i.toNat) (20 * g + i) = 1) = 0 := bi_f (fun q => hw0 (by rw [← htd]; exact q.2))
          have hyc : cgP M f lz (20 * g.toNat + i.toNat) := hcg.mpr (fun q => hw0 q.symm)
          have hval : (if M 22 (20 * g + i) = 0 then (0 : Int) else 1000) = 0 := if_pos (by omega)
          refine x_iload C dX6_tellOf_105 rfl ?_
          refine x_iload_n C dX6_tellOf_107 rfl rfl ?_
          refine x_icmp_ge (tgt := 192) C dX6_tellOf_108 (by decide) (by omega) (by omega) (fun h108 => ?_) (fun h108 => ?_)
          ·
            omega
          ·
            refine x_aload_n C dX6_tellOf_111 rfl rfl ?_
            refine x_iload C dX6_tellOf_112 rfl ?_
            refine h_aaldN C wn (by rw [wnl]; omega) (by rw [wnl]; omega) dX6_tellOf_114 ?_
            simp only [wnr i hi9.1 hi9.2]
            refine x_astore C dX6_tellOf_115 (by rw [hn]; exact Nat.le_of_ble_eq_true rfl) ?_
            refine x_aload C dX6_tellOf_117 rfl ?_
            refine x_callV C hR cb_X4_lowest cv_X4_lowest u6_13 (k_X4_lowest hst s1 hf1 hi9) (h_recv hnk (by decide)) ⟨_, _, rfl⟩ rfl (Nat.le_of_ble_eq_true rfl) rfl dX6_tellOf_119 (by decide) (by decide) (fun E x9 h9 => absurd h9.1 (by intro h; cases h)) (fun r9 x9 h9 => ?_)
            obtain ⟨e9, q9⟩ := h9
            cases e9
            subst x9
            refine h_get4 (f := 6) C hnf (by decide) u23_16 rfl rfl dX6_tellOf_122 ?_
            simp only [b46]
            refine x_aload_n C dX6_tellOf_125 rfl rfl ?_
            refine h_get3 (f := 3) C g0 (by decide) u22_21 rfl rfl dX6_tellOf_126 ?_
            simp only [g33]
            refine x_icmp_lt (tgt := 136) C dX6_tellOf_129 (by decide) (by omega) (by omega) (fun h129 => ?_) (fun h129 => ?_)
            ·
              exfalso; omega
            ·
              refine x_iconst C dX6_tellOf_132 ?_
              refine x_goto (tgt := 137) C dX6_tellOf_133 (by decide) ?_
              refine x_istore C dX6_tellOf_137 (by rw [hn]; exact Nat.le_of_ble_eq_true rfl) ?_
              refine x_iload C dX6_tellOf_139 rfl ?_
              refine x_aload_n C dX6_tellOf_141 rfl rfl ?_
              refine x_aload C dX6_tellOf_142 rfl ?_
              refine x_callV C hR cb_X3_wasToldOf cv_X3_wasToldOf u23_18 (k_X3_wasToldOf hst s1 hi9 g0 hT35) (h_recv g0 (by decide)) ⟨_, _, rfl⟩ rfl (Nat.le_of_ble_eq_true rfl) rfl dX6_tellOf_144 (by decide) (by decide) (fun E x9 h9 => absurd h9.1 (by intro h; cases h)) (fun r9 x9 h9 => ?_)
              obtain ⟨e9, q9⟩ := h9
              cases e9
              subst x9
              rw [hwb]
              refine x_icmp_eq (tgt := 186) C dX6_tellOf_147 (by decide) (by omega) (by omega) (fun h147 => ?_) (fun h147 => ?_)
              ·
                first
                | (exfalso; omega)
                | (refine x_iinc C dX6_tellOf_186 (by rw [hn]; exact Nat.le_of_ble_eq_true rfl) rfl ?_
                   refine x_goto (tgt := 105) C dX6_tellOf_189 (by decide) ?_
                   exact X.to (ih (i + 1) _ (by omega) (by omega) ((hF2.tr (Fr.sA rfl)).tr (Fr.sI (by decide))) (fun k h0 h1 => by rw [fI_set_ne (by decide)]; exact hb k h0 h1) (by
                    rw [show 20 * g.toNat + (i + 1).toNat = (20 * g.toNat + i.toNat) + 1 by omega]
                    refine hT1.yes s.mi hyc hg hi9 q5 hgi ?_ (fun j => ?_) (fun a => ?_)
                    · rw [fI_set_eq]; rfl
                    · show aI (setA _ (cW A) _ _) (cW A) j = _
                      rw [aI_setA]
                      by_cases hj : j = fI h1 69 (cO A)
                      · rw [if_pos hj, if_pos ⟨rfl, hj⟩, hcv, hval]
                        first | rfl | omega
                      · rw [if_neg hj, if_neg (fun q => hj q.2)]
                        rfl
                    · show fI (setI h1 35 _ _) 35 a = _
                      rw [fI_setI]
                      by_cases ha : a = gp A g
                      · rw [if_pos ha, if_pos ⟨rfl, ha⟩]
                      · rw [if_neg ha, if_neg (fun q => ha q.2)])) (lsc rfl (lsc rfl (lsc rfl (lsc rfl (lsc rfl (lsn)))))))
              ·
                refine x_aload_n C dX6_tellOf_150 rfl rfl ?_
                refine x_aload C dX6_tellOf_151 rfl ?_
                refine x_callV C hR cb_X3_turn cv_X3_turn u24_0 (k_X3_turn hst s1 hi9 g0) (h_recv g0 (by decide)) ⟨_, _, rfl⟩ rfl (Nat.le_of_ble_eq_true rfl) rfl dX6_tellOf_153 (by decide) (by decide) (fun E x9 h9 => absurd h9.1 (by intro h; cases h)) (fun r9 x9 h9 => ?_)
                obtain ⟨e9, q9⟩ := h9
                cases e9
                subst x9
                have hF2 : Fr [46, 35, 69] [] (fun a => a = cW A) nA h (setI h1 35 (gp A g) (bOp (· ^^^ ·) (fI h1 35 (gp A g)) (bitI i))) := hO1.tr (Fr.sI (by decide))
                have s2 := hF2.sp s
                have v2 := hF2.vo v (by unfold nA; exact id)
                obtain ⟨v20, -⟩ := id v2
                obtain ⟨g20, g230, -⟩ := hF2.grp hgr
                obtain ⟨n20, n240, -⟩ := s2.no i hi9.1 hi9.2
                refine x_aload_n C dX6_tellOf_156 rfl rfl ?_
                refine x_aload_n C dX6_tellOf_157 rfl rfl ?_
                refine h_get3 (f := 0) C g20 (by decide) u12_13 rfl rfl dX6_tellOf_158 ?_
                simp only [g230]
                refine x_bipush C dX6_tellOf_161 (by decide) ?_
                refine x_imul C dX6_tellOf_163 ?_
                refine x_aload C dX6_tellOf_164 rfl ?_
                refine h_get4 (f := 0) C n20 (by decide) u6_22 rfl rfl dX6_tellOf_166 ?_
                simp only [n240]
                refine x_iadd C dX6_tellOf_169 ?_
                refine x_iload C dX6_tellOf_170 rfl ?_
                refine x_if_eq (tgt := 179) C dX6_tellOf_172 (by decide) (by decide) (fun h => absurd h (by decide)) (fun _ => ?_)
                refine x_iconst C dX6_tellOf_175 ?_
                refine x_goto (tgt := 182) C dX6_tellOf_176 (by decide) ?_
                refine x_iadd C dX6_tellOf_182 ?_
                refine x_callV C hR cb_X6_keepChange cv_X6_keepChange u24_4 (k_X6_keepChange (M := M) hst v2 (by rw [fI_set_ne (by decide), hT69]; omega)) (h_recv v20 (by decide)) ⟨_, _, rfl⟩ rfl (Nat.le_of_ble_eq_true rfl) rfl dX6_tellOf_183 (by decide) (by decide) (fun E x9 h9 => absurd h9.1 (by intro h; cases h)) (fun r9 x9 h9 => ?_)
                obtain ⟨e9, q9⟩ := h9
                cases e9
                subst x9
                first
                | (exfalso; omega)
                | (refine x_iinc C dX6_tellOf_186 (by rw [hn]; exact Nat.le_of_ble_eq_true rfl) rfl ?_
                   refine x_goto (tgt := 105) C dX6_tellOf_189 (by decide) ?_
                   exact X.to (ih (i + 1) _ (by omega) (by omega) ((hF2.tr (Fr.sA rfl)).tr (Fr.sI (by decide))) (fun k h0 h1 => by rw [fI_set_ne (by decide)]; exact hb k h0 h1) (by
                    rw [show 20 * g.toNat + (i + 1).toNat = (20 * g.toNat + i.toNat) + 1 by omega]
                    refine hT1.yes s.mi hyc hg hi9 q5 hgi ?_ (fun j => ?_) (fun a => ?_)
                    · rw [fI_set_eq]; rfl
                    · show aI (setA _ (cW A) _ _) (cW A) j = _
                      rw [aI_setA]
                      by_cases hj : j = fI h1 69 (cO A)
                      · rw [if_pos hj, if_pos ⟨rfl, hj⟩, hcv, hval]
                        first | rfl | omega
                      · rw [if_neg hj, if_neg (fun q => hj q.2)]
                        rfl
                    · show fI (setI h1 35 _ _) 35 a = _
                      rw [fI_setI]
                      by_cases ha : a = gp A g
                      · rw [if_pos ha, if_pos ⟨rfl, ha⟩]
                      · rw [if_neg ha, if_neg (fun q => ha q.2)])) (lsc rfl (lsc rfl (lsc rfl (lsc rfl (lsc rfl (lsn)))))))
      · rw [bi_f hin] at hcg
        by_cases hw0 : M 22 (20 * g + i) = 0
        · have hwb : bi ((0 ≤ i ∧ i < 20) ∧ tdV M f lz (20 * g.toNat + i.toNat) (20 * g + i) = 1) = 0 := bi_f (fun q => by have := q.2; rw [htd] at this; omega)
          have hnc : ¬ cgP M f lz (20 * g.toNat + i.toNat) := fun q => hcg.mp q hw0.symm
          refine x_iload C dX6_tellOf_105 rfl ?_
          refine x_iload_n C dX6_tellOf_107 rfl rfl ?_
          refine x_icmp_ge (tgt := 192) C dX6_tellOf_108 (by decide) (by omega) (by omega) (fun h108 => ?_) (fun h108 => ?_)
          ·
            omega
          ·
            refine x_aload_n C dX6_tellOf_111 rfl rfl ?_
            refine x_iload C dX6_tellOf_112 rfl ?_
            refine h_aaldN C wn (by rw [wnl]; omega) (by rw [wnl]; omega) dX6_tellOf_114 ?_
            simp only [wnr i hi9.1 hi9.2]
            refine x_astore C dX6_tellOf_115 (by rw [hn]; exact Nat.le_of_ble_eq_true rfl) ?_
            refine x_aload C dX6_tellOf_117 rfl ?_
            refine x_callV C hR cb_X4_lowest cv_X4_lowest u6_13 (k_X4_lowest hst s1 hf1 hi9) (h_recv hnk (by decide)) ⟨_, _, rfl⟩ rfl (Nat.le_of_ble_eq_true rfl) rfl dX6_tellOf_119 (by decide) (by decide) (fun E x9 h9 => absurd h9.1 (by intro h; cases h)) (fun r9 x9 h9 => ?_)
            obtain ⟨e9, q9⟩ := h9
            cases e9
            subst x9
            refine h_get4 (f := 6) C hnf (by decide) u23_16 rfl rfl dX6_tellOf_122 ?_
            simp only [b46]
            refine x_aload_n C dX6_tellOf_125 rfl rfl ?_
            refine h_get3 (f := 3) C g0 (by decide) u22_21 rfl rfl dX6_tellOf_126 ?_
            simp only [g33]
            refine x_icmp_lt (tgt := 136) C dX6_tellOf_129 (by decide) (by omega) (by omega) (fun h129 => ?_) (fun h129 => ?_)
            ·
              refine x_iconst C dX6_tellOf_136 ?_
              refine x_istore C dX6_tellOf_137 (by rw [hn]; exact Nat.le_of_ble_eq_true rfl) ?_
              refine x_iload C dX6_tellOf_139 rfl ?_
              refine x_aload_n C dX6_tellOf_141 rfl rfl ?_
              refine x_aload C dX6_tellOf_142 rfl ?_
              refine x_callV C hR cb_X3_wasToldOf cv_X3_wasToldOf u23_18 (k_X3_wasToldOf hst s1 hi9 g0 hT35) (h_recv g0 (by decide)) ⟨_, _, rfl⟩ rfl (Nat.le_of_ble_eq_true rfl) rfl dX6_tellOf_144 (by decide) (by decide) (fun E x9 h9 => absurd h9.1 (by intro h; cases h)) (fun r9 x9 h9 => ?_)
              obtain ⟨e9, q9⟩ := h9
              cases e9
              subst x9
              rw [hwb]
              refine x_icmp_eq (tgt := 186) C dX6_tellOf_147 (by decide) (by omega) (by omega) (fun h147 => ?_) (fun h147 => ?_)
              ·
                refine x_iinc C dX6_tellOf_186 (by rw [hn]; exact Nat.le_of_ble_eq_true rfl) rfl ?_
                refine x_goto (tgt := 105) C dX6_tellOf_189 (by decide) ?_
                exact X.to (ih (i + 1) h1 (by omega) (by omega) hO1 hb (by rw [show 20 * g.toNat + (i + 1).toNat = (20 * g.toNat + i.toNat) + 1 by omega]; exact hT1.no hnc)) (lsc rfl (lsc rfl (lsc rfl (lsc rfl (lsc rfl (lsn))))))
              ·
                exfalso; omega
            ·
              exfalso; omega
        · have hwb : bi ((0 ≤ i ∧ i < 20) ∧ tdV M f lz (20 * g.toNat + i.toNat) (20 * g + i) = 1) = 1 := bi_t ⟨hi9, by rw [htd]; omega⟩
          have hyc : cgP M f lz (20 * g.toNat + i.toNat) := hcg.mpr (fun q => hw0 q.symm)
          have hval : (if M 22 (20 * g + i) = 0 then (0 : Int) else 1000) = 1000 := if_neg hw0
          refine x_iload C dX6_tellOf_105 rfl ?_
          refine x_iload_n C dX6_tellOf_107 rfl rfl ?_
          refine x_icmp_ge (tgt := 192) C dX6_tellOf_108 (by decide) (by omega) (by omega) (fun h108 => ?_) (fun h108 => ?_)
          ·
            omega
          ·
            refine x_aload_n C dX6_tellOf_111 rfl rfl ?_
            refine x_iload C dX6_tellOf_112 rfl ?_
            refine h_aaldN C wn (by rw [wnl]; omega) (by rw [wnl]; omega) dX6_tellOf_114 ?_
            simp only [wnr i hi9.1 hi9.2]
            refine x_astore C dX6_tellOf_115 (by rw [hn]; exact Nat.le_of_ble_eq_true rfl) ?_
            refine x_aload C dX6_tellOf_117 rfl ?_
            refine x_callV C hR cb_X4_lowest cv_X4_lowest u6_13 (k_X4_lowest hst s1 hf1 hi9) (h_recv hnk (by decide)) ⟨_, _, rfl⟩ rfl (Nat.le_of_ble_eq_true rfl) rfl dX6_tellOf_119 (by decide) (by decide) (fun E x9 h9 => absurd h9.1 (by intro h; cases h)) (fun r9 x9 h9 => ?_)
            obtain ⟨e9, q9⟩ := h9
            cases e9
            subst x9
            refine h_get4 (f := 6) C hnf (by decide) u23_16 rfl rfl dX6_tellOf_122 ?_
            simp only [b46]
            refine x_aload_n C dX6_tellOf_125 rfl rfl ?_
            refine h_get3 (f := 3) C g0 (by decide) u22_21 rfl rfl dX6_tellOf_126 ?_
            simp only [g33]
            refine x_icmp_lt (tgt := 136) C dX6_tellOf_129 (by decide) (by omega) (by omega) (fun h129 => ?_) (fun h129 => ?_)
            ·
              refine x_iconst C dX6_tellOf_136 ?_
              refine x_istore C dX6_tellOf_137 (by rw [hn]; exact Nat.le_of_ble_eq_true rfl) ?_
              refine x_iload C dX6_tellOf_139 rfl ?_
              refine x_aload_n C dX6_tellOf_141 rfl rfl ?_
              refine x_aload C dX6_tellOf_142 rfl ?_
              refine x_callV C hR cb_X3_wasToldOf cv_X3_wasToldOf u23_18 (k_X3_wasToldOf hst s1 hi9 g0 hT35) (h_recv g0 (by decide)) ⟨_, _, rfl⟩ rfl (Nat.le_of_ble_eq_true rfl) rfl dX6_tellOf_144 (by decide) (by decide) (fun E x9 h9 => absurd h9.1 (by intro h; cases h)) (fun r9 x9 h9 => ?_)
              obtain ⟨e9, q9⟩ := h9
              cases e9
              subst x9
              rw [hwb]
              refine x_icmp_eq (tgt := 186) C dX6_tellOf_147 (by decide) (by omega) (by omega) (fun h147 => ?_) (fun h147 => ?_)
              ·
                first
                | (exfalso; omega)
                | (refine x_iinc C dX6_tellOf_186 (by rw [hn]; exact Nat.le_of_ble_eq_true rfl) rfl ?_
                   refine x_goto (tgt := 105) C dX6_tellOf_189 (by decide) ?_
                   exact X.to (ih (i + 1) _ (by omega) (by omega) ((hF2.tr (Fr.sA rfl)).tr (Fr.sI (by decide))) (fun k h0 h1 => by rw [fI_set_ne (by decide)]; exact hb k h0 h1) (by
                    rw [show 20 * g.toNat + (i + 1).toNat = (20 * g.toNat + i.toNat) + 1 by omega]
                    refine hT1.yes s.mi hyc hg hi9 q5 hgi ?_ (fun j => ?_) (fun a => ?_)
                    · rw [fI_set_eq]; rfl
                    · show aI (setA _ (cW A) _ _) (cW A) j = _
                      rw [aI_setA]
                      by_cases hj : j = fI h1 69 (cO A)
                      · rw [if_pos hj, if_pos ⟨rfl, hj⟩, hcv, hval]
                        first | rfl | omega
                      · rw [if_neg hj, if_neg (fun q => hj q.2)]
                        rfl
                    · show fI (setI h1 35 _ _) 35 a = _
                      rw [fI_setI]
                      by_cases ha : a = gp A g
                      · rw [if_pos ha, if_pos ⟨rfl, ha⟩]
                      · rw [if_neg ha, if_neg (fun q => ha q.2)])) (lsc rfl (lsc rfl (lsc rfl (lsc rfl (lsc rfl (lsn)))))))
              ·
                refine x_aload_n C dX6_tellOf_150 rfl rfl ?_
                refine x_aload C dX6_tellOf_151 rfl ?_
                refine x_callV C hR cb_X3_turn cv_X3_turn u24_0 (k_X3_turn hst s1 hi9 g0) (h_recv g0 (by decide)) ⟨_, _, rfl⟩ rfl (Nat.le_of_ble_eq_true rfl) rfl dX6_tellOf_153 (by decide) (by decide) (fun E x9 h9 => absurd h9.1 (by intro h; cases h)) (fun r9 x9 h9 => ?_)
                obtain ⟨e9, q9⟩ := h9
                cases e9
                subst x9
                have hF2 : Fr [46, 35, 69] [] (fun a => a = cW A) nA h (setI h1 35 (gp A g) (bOp (· ^^^ ·) (fI h1 35 (gp A g)) (bitI i))) := hO1.tr (Fr.sI (by decide))
                have s2 := hF2.sp s
                have v2 := hF2.vo v (by unfold nA; exact id)
                obtain ⟨v20, -⟩ := id v2
                obtain ⟨g20, g230, -⟩ := hF2.grp hgr
                obtain ⟨n20, n240, -⟩ := s2.no i hi9.1 hi9.2
                refine x_aload_n C dX6_tellOf_156 rfl rfl ?_
                refine x_aload_n C dX6_tellOf_157 rfl rfl ?_
                refine h_get3 (f := 0) C g20 (by decide) u12_13 rfl rfl dX6_tellOf_158 ?_
                simp only [g230]
                refine x_bipush C dX6_tellOf_161 (by decide) ?_
                refine x_imul C dX6_tellOf_163 ?_
                refine x_aload C dX6_tellOf_164 rfl ?_
                refine h_get4 (f := 0) C n20 (by decide) u6_22 rfl rfl dX6_tellOf_166 ?_
                simp only [n240]
                refine x_iadd C dX6_tellOf_169 ?_
                refine x_iload C dX6_tellOf_170 rfl ?_
                refine x_if_eq (tgt := 179) C dX6_tellOf_172 (by decide) (by decide) (fun _ => ?_) (fun h => absurd h (by decide))
                refine x_sipush C dX6_tellOf_179 (by decide) ?_
                refine x_iadd C dX6_tellOf_182 ?_
                refine x_callV C hR cb_X6_keepChange cv_X6_keepChange u24_4 (k_X6_keepChange (M := M) hst v2 (by rw [fI_set_ne (by decide), hT69]; omega)) (h_recv v20 (by decide)) ⟨_, _, rfl⟩ rfl (Nat.le_of_ble_eq_true rfl) rfl dX6_tellOf_183 (by decide) (by decide) (fun E x9 h9 => absurd h9.1 (by intro h; cases h)) (fun r9 x9 h9 => ?_)
                obtain ⟨e9, q9⟩ := h9
                cases e9
                subst x9
                first
                | (exfalso; omega)
                | (refine x_iinc C dX6_tellOf_186 (by rw [hn]; exact Nat.le_of_ble_eq_true rfl) rfl ?_
                   refine x_goto (tgt := 105) C dX6_tellOf_189 (by decide) ?_
                   exact X.to (ih (i + 1) _ (by omega) (by omega) ((hF2.tr (Fr.sA rfl)).tr (Fr.sI (by decide))) (fun k h0 h1 => by rw [fI_set_ne (by decide)]; exact hb k h0 h1) (by
                    rw [show 20 * g.toNat + (i + 1).toNat = (20 * g.toNat + i.toNat) + 1 by omega]
                    refine hT1.yes s.mi hyc hg hi9 q5 hgi ?_ (fun j => ?_) (fun a => ?_)
                    · rw [fI_set_eq]; rfl
                    · show aI (setA _ (cW A) _ _) (cW A) j = _
                      rw [aI_setA]
                      by_cases hj : j = fI h1 69 (cO A)
                      · rw [if_pos hj, if_pos ⟨rfl, hj⟩, hcv, hval]
                        first | rfl | omega
                      · rw [if_neg hj, if_neg (fun q => hj q.2)]
                        rfl
                    · show fI (setI h1 35 _ _) 35 a = _
                      rw [fI_setI]
                      by_cases ha : a = gp A g
                      · rw [if_pos ha, if_pos ⟨rfl, ha⟩]
                      · rw [if_neg ha, if_neg (fun q => ha q.2)])) (lsc rfl (lsc rfl (lsc rfl (lsc rfl (lsc rfl (lsn)))))))
            ·
              exfalso; omega
  have loop2 : ∀ (t : List Int) (h1 : HS) (u : Option Nat), Fr [46] [] nA nA h h1 → LG h1 A u t none → (∀ e ∈ t, 0 ≤ e ∧ e < M 2 0) → (∀ k, 0 ≤ k → k < 20 → fI h1 46 (nd A k) + cfN M f k (M 18 g) (M 19 g) (M 1 0) (M 21 g) t = cfN M f k (M 18 g) (M 19 g) (M 1 0) (M 21 g) lz) → X φ (RepH cy h1) 0 0 43 [(0, vr (some (cO A))), (1, vr (some (gp A g))), (2, vr u)] [] := by
    intro t
    induction t with
    | nil =>
      intro h1 u hO1 hu ht hb
      have hu : u = none := hu
      subst hu
      have s1 := hO1.sp s
      have v1 := hO1.vo v (by unfold nA; exact id)
      obtain ⟨w0, w60, w61, w62, w63, w64, wn, wnl, wnr, wm, wml, wh, wt, ww, wwl⟩ := id v1
      obtain ⟨g0, g30, g31, g32, g33, g34⟩ := hO1.grp hgr
      refine x_aload_n C dX6_tellOf_43 rfl rfl ?_
      refine x_ifnull (tgt := 94) C dX6_tellOf_44 (by decide) (fun h44 => ?_) (fun a44 h44 => ?_)
      ·
        refine x_aload_n C dX6_tellOf_94 rfl rfl ?_
        refine h_get6 (f := 0) C w0 (by decide) u0_14 rfl rfl dX6_tellOf_95 ?_
        simp only [w60]
        refine x_astore_n C dX6_tellOf_98 rfl (by rw [hn]; exact Nat.le_of_ble_eq_true rfl) ?_
        refine x_aload_n C dX6_tellOf_99 rfl rfl ?_
        refine h_alen C (by omega) dX6_tellOf_100 ?_
        simp only [wnl]
        refine x_istore_n C dX6_tellOf_101 rfl (by rw [hn]; exact Nat.le_of_ble_eq_true rfl) ?_
        refine x_iconst C dX6_tellOf_102 ?_
        refine x_istore C dX6_tellOf_103 (by rw [hn]; exact Nat.le_of_ble_eq_true rfl) ?_
        exact X.to (loop3 20 0 h1 (by omega) (by omega) (hO1.up (by decide) (fun _ q => q) (fun _ q => q.elim) (fun _ q => q)) (fun k h0 h1 => by have := hb k h0 h1; rw [← this]; exact (Int.add_zero _).symm) (hT.fr hO1 (by decide) (by decide) id)) (lsc rfl (lsc rfl (lsc rfl (lsc rfl (lsc rfl (lsn))))))
      ·
        cases h44
    | cons y t ih =>
      intro h1 u hO1 hu ht hb
      obtain ⟨rfl, hu2⟩ := hu
      have hxl := ht y List.mem_cons_self
      have s1 := hO1.sp s
      have v1 := hO1.vo v (by unfold nA; exact id)
      obtain ⟨w0, w60, w61, w62, w63, w64, wn, wnl, wnr, wm, wml, wh, wt, ww, wwl⟩ := id v1
      obtain ⟨g0, g30, g31, g32, g33, g34⟩ := hO1.grp hgr
      have hf1 := hO1.lw hf
      have exk : kD h1 (ev A y) = 2 := (s1.ve y hxl.1 hxl.2).1
      have hCN1 := hO1.cns hCN (fun _ _ _ => id)
      have hcn := cnt_hc s.mi hxl (p := M 18 g) (by omega)
      have hr := rowOf_in s.mi hxl.1 hxl.2 (p := M 18 g) (by omega)
      have hrc := s.mi.ch _ hr.1 hr.2
      have hnd := ndOf_in s.mi hxl.1 hxl.2
      have hfy := (hf (ndOf M y) hnd.1 hnd.2).2
      obtain ⟨hny, -⟩ := s1.no (f (ndOf M y)) hfy.1 hfy.2
      obtain ⟨hnz, -⟩ := s1.no (ndOf M y) hnd.1 hnd.2
      have hk9 : 0 ≤ (if M 5 y = -1 then 10 + M 4 y else M 5 y) ∧ (if M 5 y = -1 then 10 + M 4 y else M 5 y) < 20 := by
        have h9 := s.mi.ev y hxl.1 hxl.2
        obtain ⟨-, h4, h5, -⟩ := h9
        split <;> omega
      simp only [rowOf] at hr hrc hcn
      refine x_aload_n C dX6_tellOf_43 rfl rfl ?_
      refine x_ifnull (tgt := 94) C dX6_tellOf_44 (by decide) (fun h44 => ?_) (fun a44 h44 => ?_)
      ·
        cases h44
      ·
        refine x_aload_n C dX6_tellOf_47 rfl rfl ?_
        refine x_aload_n C dX6_tellOf_48 rfl rfl ?_
        refine h_get3 (f := 1) C g0 (by decide) u22_18 rfl rfl dX6_tellOf_49 ?_
        simp only [g31]
        refine x_aload_n C dX6_tellOf_52 rfl rfl ?_
        refine h_get3 (f := 2) C g0 (by decide) u22_19 rfl rfl dX6_tellOf_53 ?_
        simp only [g32]
        refine x_aload_n C dX6_tellOf_56 rfl rfl ?_
        refine h_get6 (f := 11) C w0 (by decide) u1_5 rfl rfl dX6_tellOf_57 ?_
        simp only [(hO1.i (f := 71) (by decide) _).trans h71]
        refine x_aload_n C dX6_tellOf_60 rfl rfl ?_
        refine h_get3 (f := 4) C g0 (by decide) u22_20 rfl rfl dX6_tellOf_61 ?_
        simp only [g34]
        refine x_callV C hR cb_X1_countsFor cv_X1_countsFor u21_14 (k_X1_countsFor hst s1 hxl rfl (by omega) (hCN1 _ (M 18 g) hk9.1 hk9.2 (by omega) (by omega)) (fun y hy => slC_nn s.mi _ hr.1 hr.2 _ (by omega) y hy) (by omega) (by omega) (by omega)) (h_recv exk (by decide)) ⟨_, _, rfl⟩ rfl (Nat.le_of_ble_eq_true rfl) rfl dX6_tellOf_64 (by decide) (by decide) (fun E x9 h9 => absurd h9.1 (by intro h; cases h)) (fun r9 x9 h9 => ?_)
        obtain ⟨e9, q9⟩ := h9
        cases e9
        subst x9
        refine x_if_eq (tgt := 86) C dX6_tellOf_67 (by decide) (by first | omega | exact bi_rng _) (fun h67 => ?_) (fun h67 => ?_)
        ·
          replace h67 := bi_eq0.mp h67
          refine x_aload_n C dX6_tellOf_86 rfl rfl ?_
          refine h_get1 (f := 8) C exk (by decide) u8_3 rfl rfl dX6_tellOf_87 ?_
          refine x_astore_n C dX6_tellOf_90 rfl (by rw [hn]; exact Nat.le_of_ble_eq_true rfl) ?_
          refine x_goto (tgt := 43) C dX6_tellOf_91 (by decide) ?_
          first
          | (exfalso; exact h67 rfl; done)
          | (exact X.to (ih h1 _ hO1 hu2 (fun e he => ht e (List.mem_cons_of_mem _ he)) (fun k h0 h1 => by
              have h9 := hb k h0 h1
              rw [cfN_cons, if_neg (fun q => h67 ⟨q.2.1, q.2.2.1, q.2.2.2.1, hcn.mp q.2.2.2.2⟩)] at h9
              omega)) (lsc rfl (lsc rfl (lsc rfl (lsn)))))
          | (exact X.to (ih _ _ (hO1.tr (Fr.sI (by decide))) ((Fr.sI (fi := [46]) (fp := []) (ai := nA) (ar := nA) (by decide)).lg hu2) (fun e he => ht e (List.mem_cons_of_mem _ he)) (fun k h0 h1 => by
              have h9 := hb k h0 h1
              rw [cfN_cons] at h9
              rw [fI_setI]
              by_cases hkx : f (ndOf M y) = k
              · rw [if_pos ⟨hkx, h67.1, h67.2.1, h67.2.2.1, hcn.mpr h67.2.2.2⟩] at h9
                rw [if_pos ⟨rfl, by rw [hkx]⟩, hkx]
                omega
              · rw [if_neg (fun q => hkx q.1)] at h9
                rw [if_neg (fun q => hkx ((nd_inj s h0 h1 hfy.1 hfy.2).mp q.2).symm)]
                omega)) (lsc rfl (lsc rfl (lsc rfl (lsn)))))
        ·
          replace h67 := bi_ne0.mp h67
          refine x_aload_n C dX6_tellOf_70 rfl rfl ?_
          refine x_callV C hR cb_X1_owner cv_X1_owner u23_17 (k_X1_owner hst s1 hxl) (h_recv exk (by decide)) ⟨_, _, rfl⟩ rfl (Nat.le_of_ble_eq_true rfl) rfl dX6_tellOf_71 (by decide) (by decide) (fun E x9 h9 => absurd h9.1 (by intro h; cases h)) (fun r9 x9 h9 => ?_)
          obtain ⟨e9, q9⟩ := h9
          cases e9
          subst x9
          refine x_callV C hR cb_X4_lowest cv_X4_lowest u6_13 (k_X4_lowest hst s1 hf1 hnd) (h_recv hnz (by decide)) ⟨_, _, rfl⟩ rfl (Nat.le_of_ble_eq_true rfl) rfl dX6_tellOf_74 (by decide) (by decide) (fun E x9 h9 => absurd h9.1 (by intro h; cases h)) (fun r9 x9 h9 => ?_)
          obtain ⟨e9, q9⟩ := h9
          cases e9
          subst x9
          refine x_dup C dX6_tellOf_77 (by first | rfl | exact vr_cat _ | exact vi_cat _) ?_
          refine h_get4 (f := 6) C hny (by decide) u23_16 rfl rfl dX6_tellOf_78 ?_
          refine x_iconst C dX6_tellOf_81 ?_
          refine x_iadd C dX6_tellOf_82 ?_
          refine h_put4 (f := 6) (h' := setI _ 46 _ _) C hny (by decide) u23_16 rfl rfl (tyX4_ok 6 (by decide)) (fit_vi _) (cs4_6 hny) (fun _ => rfl) (fun _ hx => cell_setI_ne hx) dX6_tellOf_83 ?_
          refine x_aload_n C dX6_tellOf_86 rfl rfl ?_
          refine h_get1 (f := 8) C exk (by decide) u8_3 rfl rfl dX6_tellOf_87 ?_
          refine x_astore_n C dX6_tellOf_90 rfl (by rw [hn]; exact Nat.le_of_ble_eq_true rfl) ?_
          refine x_goto (tgt := 43) C dX6_tellOf_91 (by decide) ?_
          first
          | (exfalso; exact h67 rfl; done)
          | (exact X.to (ih h1 _ hO1 hu2 (fun e he => ht e (List.mem_cons_of_mem _ he)) (fun k h0 h1 => by
              have h9 := hb k h0 h1
              rw [cfN_cons, if_neg (fun q => h67 ⟨q.2.1, q.2.2.1, q.2.2.2.1, hcn.mp q.2.2.2.2⟩)] at h9
              omega)) (lsc rfl (lsc rfl (lsc rfl (lsn)))))
          | (exact X.to (ih _ _ (hO1.tr (Fr.sI (by decide))) ((Fr.sI (fi := [46]) (fp := []) (ai := nA) (ar := nA) (by decide)).lg hu2) (fun e he => ht e (List.mem_cons_of_mem _ he)) (fun k h0 h1 => by
              have h9 := hb k h0 h1
              rw [cfN_cons] at h9
              rw [fI_setI]
              by_cases hkx : f (ndOf M y) = k
              · rw [if_pos ⟨hkx, h67.1, h67.2.1, h67.2.2.1, hcn.mpr h67.2.2.2⟩] at h9
                rw [if_pos ⟨rfl, by rw [hkx]⟩, hkx]
                omega
              · rw [if_neg (fun q => hkx q.1)] at h9
                rw [if_neg (fun q => hkx ((nd_inj s h0 h1 hfy.1 hfy.2).mp q.2).symm)]
                omega)) (lsc rfl (lsc rfl (lsc rfl (lsn)))))
  have loop1 : ∀ (n : Nat) (i : Int) (h1 : HS), i + n = 20 → 0 ≤ i → Fr [46] [] nA nA h h1 → (∀ k, 0 ≤ k → k < i → fI h1 46 (nd A k) = 0) → X φ (RepH cy h1) 0 0 11 [(0, vr (some (cO A))), (1, vr (some (gp A g))), (2, vr (some (cN A))), (3, vi 20), (4, vi i)] [] := by
    intro n
    induction n with
    | zero =>
      intro i h1 hi hi0 hO1 hz
      have s1 := hO1.sp s
      have v1 := hO1.vo v (by unfold nA; exact id)
      obtain ⟨w0, w60, w61, w62, w63, w64, wn, wnl, wnr, wm, wml, wh, wt, ww, wwl⟩ := id v1
      obtain ⟨g0, g30, g31, g32, g33, g34⟩ := hO1.grp hgr
      refine x_iload C dX6_tellOf_11 rfl ?_
      refine x_iload_n C dX6_tellOf_13 rfl rfl ?_
      refine x_icmp_ge (tgt := 35) C dX6_tellOf_14 (by decide) (by omega) (by omega) (fun h14 => ?_) (fun h14 => ?_)
      ·
        refine x_aload_n C dX6_tellOf_35 rfl rfl ?_
        refine h_get6 (f := 2) C w0 (by decide) u0_22 rfl rfl dX6_tellOf_36 ?_
        simp only [w62]
        refine h_get2 (f := 0) C wh (by decide) u8_1 rfl rfl dX6_tellOf_39 ?_
        refine x_astore_n C dX6_tellOf_42 rfl (by rw [hn]; exact Nat.le_of_ble_eq_true rfl) ?_
        exact X.to (loop2 lz h1 _ hO1 (hO1.ch hC).1 hl (fun k h0 h1 => by rw [hz k h0 (by omega), Int.zero_add])) (lsc rfl (lsc rfl (lsc rfl (lsn))))
      ·
        omega
    | succ n ih =>
      intro i h1 hi hi0 hO1 hz
      have s1 := hO1.sp s
      have v1 := hO1.vo v (by unfold nA; exact id)
      obtain ⟨w0, w60, w61, w62, w63, w64, wn, wnl, wnr, wm, wml, wh, wt, ww, wwl⟩ := id v1
      obtain ⟨g0, g30, g31, g32, g33, g34⟩ := hO1.grp hgr
      have hi9 : 0 ≤ i ∧ i < 20 := by omega
      obtain ⟨hnk, -⟩ := s1.no i hi9.1 hi9.2
      refine x_iload C dX6_tellOf_11 rfl ?_
      refine x_iload_n C dX6_tellOf_13 rfl rfl ?_
      refine x_icmp_ge (tgt := 35) C dX6_tellOf_14 (by decide) (by omega) (by omega) (fun h14 => ?_) (fun h14 => ?_)
      ·
        omega
      ·
        refine x_aload_n C dX6_tellOf_17 rfl rfl ?_
        refine x_iload C dX6_tellOf_18 rfl ?_
        refine h_aaldN C wn (by rw [wnl]; omega) (by rw [wnl]; omega) dX6_tellOf_20 ?_
        simp only [wnr i hi9.1 hi9.2]
        refine x_astore C dX6_tellOf_21 (by rw [hn]; exact Nat.le_of_ble_eq_true rfl) ?_
        refine x_aload C dX6_tellOf_23 rfl ?_
        refine x_iconst C dX6_tellOf_25 ?_
        refine h_put4 (f := 6) (h' := setI _ 46 _ _) C hnk (by decide) u23_16 rfl rfl (tyX4_ok 6 (by decide)) (fit_vi _) (cs4_6 hnk) (fun _ => rfl) (fun _ hx => cell_setI_ne hx) dX6_tellOf_26 ?_
        refine x_iinc C dX6_tellOf_29 (by rw [hn]; exact Nat.le_of_ble_eq_true rfl) rfl ?_
        refine x_goto (tgt := 11) C dX6_tellOf_32 (by decide) ?_
        exact X.to (ih (i + 1) _ (by omega) (by omega) (hO1.tr (Fr.sI (by decide))) (fun k h0 h2 => by
          rw [fI_setI]
          split
          · rfl
          · rename_i hq
            by_cases hki : k = i
            · subst hki
              exact absurd ⟨rfl, rfl⟩ hq
            · exact hz k h0 (by omega))) (lsc rfl (lsc rfl (lsc rfl (lsc rfl (lsc rfl (lsn))))))
  refine x_aload_n C dX6_tellOf_0 rfl rfl ?_
  refine h_get6 (f := 0) C v0 (by decide) u0_14 rfl rfl dX6_tellOf_1 ?_
  simp only [v60]
  refine x_astore_n C dX6_tellOf_4 rfl (by rw [hn]; exact Nat.le_of_ble_eq_true rfl) ?_
  refine x_aload_n C dX6_tellOf_5 rfl rfl ?_
  refine h_alen C (by omega) dX6_tellOf_6 ?_
  simp only [vnl]
  refine x_istore_n C dX6_tellOf_7 rfl (by rw [hn]; exact Nat.le_of_ble_eq_true rfl) ?_
  refine x_iconst C dX6_tellOf_8 ?_
  refine x_istore C dX6_tellOf_9 (by rw [hn]; exact Nat.le_of_ble_eq_true rfl) ?_
  exact X.to (loop1 20 0 h (by omega) (by omega) (Fr.rf h) (fun k h0 h1 => by omega)) (lsc rfl (lsc rfl (lsc rfl (lsc rfl (lsc rfl (lsn))))))

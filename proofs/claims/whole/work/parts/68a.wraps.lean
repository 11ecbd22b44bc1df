/-! The law's static methods: what a call of the object throws is caught -/
abbrev outI : Int → Int64 := fun v => (Int32.ofInt v).toInt64
def outB (v : Int) : Int64 := if v = 0 then 0 else 1
theorem outB_0 {v : Int} (h : v = 0) : outB v = 0 := if_pos h
theorem outB_1 {v : Int} (h : ¬ v = 0) : outB v = 1 := if_neg h
/-- what a static method of the law answers, and what it leaves in the row -/
def WP (Pc : Except String (Option Value) → HS → Prop) (exs : List (String × Int)) (B : Int → Prop) (outf : Int → Int64) (q : Int × MS) (o : Int64) (rk : Except String (Option Value)) (x' : L3S) : Prop := ∃ r h', Pc r h' ∧ ((∃ v : Int, r = .ok (some (vi v)) ∧ B v ∧ rk = .ok (some (vi 0)) ∧ x' = (h', q, outf v)) ∨ ∃ E k, r = .error E ∧ (E, k) ∈ exs ∧ rk = .ok (some (vi k)) ∧ x' = (h', q, o))
theorem cbw_event : CBW yL_event cL_event 9 (some .int) [(0, 25, 28, 13), (0, 25, 32, 15)] 8 := ⟨u3_1, u3_0, by decide +kernel⟩
theorem cbw_skew : CBW yL_skew cL_skew 5 (some .int) [(0, 10, 13, 13)] 4 := ⟨u7_19, u3_0, by decide +kernel⟩
theorem cbw_share : CBW yL_share cL_share 5 (some .int) [(0, 17, 20, 13)] 4 := ⟨u8_20, u3_0, by decide +kernel⟩
theorem cbw_link : CBW yL_link cL_link 6 (some .int) [(0, 19, 22, 13)] 5 := ⟨u9_16, u3_0, by decide +kernel⟩
theorem cbw_consent : CBW yL_consent cL_consent 7 (some .int) [(0, 14, 17, 13), (0, 14, 21, 15)] 6 := ⟨u10_8, u3_0, by decide +kernel⟩
theorem cbw_group : CBW yL_group cL_group 7 (some .int) [(0, 14, 17, 13), (0, 14, 21, 15)] 6 := ⟨u12_1, u3_0, by decide +kernel⟩
theorem cbw_forget : CBW yL_forget cL_forget 4 (some .int) [(0, 9, 12, 13)] 3 := ⟨u13_9, u3_0, by decide +kernel⟩
theorem cbw_pass : CBW yL_pass cL_pass 4 (some .int) [(0, 9, 12, 13), (0, 9, 15, 15)] 3 := ⟨u15_5, u3_0, by decide +kernel⟩
theorem cbw_profile : CBW yL_profile cL_profile 4 (some .int) [(0, 9, 12, 13)] 3 := ⟨u15_16, u3_0, by decide +kernel⟩
theorem cbw_profileAnew : CBW yL_profileAnew cL_profileAnew 4 (some .int) [(0, 9, 12, 13)] 3 := ⟨u16_3, u3_0, by decide +kernel⟩
theorem cbw_events : CBW yL_events cL_events 5 (some .int) [(0, 10, 13, 13)] 4 := ⟨u16_15, u3_0, by decide +kernel⟩
theorem cbw_eventAt : CBW yL_eventAt cL_eventAt 5 (some .int) [(0, 10, 13, 56), (0, 10, 17, 13)] 4 := ⟨u17_3, u3_0, by decide +kernel⟩
theorem cbw_sessions : CBW yL_sessions cL_sessions 4 (some .int) [(0, 9, 12, 13)] 3 := ⟨u18_15, u3_0, by decide +kernel⟩
theorem cbw_session : CBW yL_session cL_session 6 (some .int) [(0, 12, 15, 56), (0, 12, 19, 13)] 5 := ⟨u20_14, u3_0, by decide +kernel⟩
theorem cbw_counted : CBW yL_counted cL_counted 8 (some .int) [(0, 16, 19, 13)] 7 := ⟨u21_5, u3_0, by decide +kernel⟩
theorem cbw_groups : CBW yL_groups cL_groups 4 (some .int) [(0, 9, 12, 13)] 3 := ⟨u22_13, u3_0, by decide +kernel⟩
theorem cbw_told : CBW yL_told cL_told 4 (some .int) [(0, 9, 12, 56)] 3 := ⟨u24_16, u3_0, by decide +kernel⟩

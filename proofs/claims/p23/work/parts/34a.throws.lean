/-! What is thrown -/
def RTN : List String := ["java/lang/RuntimeException", "java/lang/Exception"]
theorem th_dec {args : Array Value} {s : State} {Lw : List Cond} {y : MethodName} {b : ByteArray} {n : Nat} {r : Option FieldType} (hL : ∀ w ∈ Lw, w.before args s = true) (m1 : Cond.instanceMethod y ∈ Lw) (m2 : Cond.code y b n r ∈ Lw) : (Cond.declares y).before args s = true := by
  obtain ⟨m, meth, hn, hm, hst, -⟩ := Cond.instanceMethod_spec (hL _ m1)
  obtain ⟨meth', c, hm', -, -, -, -, -, -, hsig⟩ := Cond.code_spec hn (hL _ m2)
  cases hm.symm.trans hm'
  show (Cond.declares y).holds args s none s [] = true
  simp only [Cond.holds, Cond.value, hn, Option.bind_some, hm, Option.map_some, hst, hsig]
  decide
theorem th_cast {args : Array Value} {s : State} {Lw : List Cond} {y : MethodName} {X : String} (hX : y.cls = X) (hL : ∀ w ∈ Lw, w.before args s = true) (m1 : Cond.instanceMethod y ∈ Lw) : (Cond.castable X X).before args s = true := by
  subst hX
  obtain ⟨m, meth, hn, -⟩ := Cond.instanceMethod_spec (hL _ m1)
  have h := findClass_of_methodNamed hn
  show (Cond.castable y.cls y.cls).holds args s none s [] = true
  simp only [Cond.holds, Cond.value, h, Vm.assignable_self]
  rfl
/-- the words of a throw of cls -/
def thW (ik ic : Nat) (cls : String) : Prop := (Bundle.fit cls = true ∧ (Cond.classLink RX6 ik cls ∈ wsL_law) ∧ (Cond.initialized cls ∈ wsL_law)) ∧ (∀ w ∈ Cond.classLink RX6 ik cls :: Cond.initialized cls :: vx_atS RX6 ic cls RTN, vx_ot w = true) ∧ ∀ (args : Array Value) (s : State), (∀ w ∈ wsL_law, w.before args s = true) → ∀ w ∈ vx_atS RX6 ic cls RTN, w.before args s = true
def thB (cls : String) : List Cond := [Cond.castable cls cls, Cond.declares (Bundle.initS "java/lang/RuntimeException"), Cond.declares (Bundle.initS "java/lang/Exception"), Cond.declares (Bundle.initS Bundle.tN)]
theorem th_mk {ik ic : Nat} {cls : String} {Lw : List Cond} (hLw : (vx_atS RX6 ic cls RTN).filter goodWord = Lw) (a1 : Bundle.fit cls = true) (a2 : Cond.classLink RX6 ik cls ∈ wsL_law) (a3 : Cond.initialized cls ∈ wsL_law) (a4 : ∀ w ∈ Cond.classLink RX6 ik cls :: Cond.initialized cls :: vx_atS RX6 ic cls RTN, vx_ot w = true) (a5 : ∀ w ∈ (vx_atS RX6 ic cls RTN).filter goodWord, w ∈ wsL_law)
    (a6 : ∀ w ∈ (vx_atS RX6 ic cls RTN).filter (fun w => !goodWord w), w ∈ thB cls)
    (c1 : Cond.instanceMethod (Bundle.initS cls) ∈ Lw) (c2 : Cond.instanceMethod (Bundle.initS "java/lang/RuntimeException") ∈ Lw) (c3 : Cond.instanceMethod (Bundle.initS "java/lang/Exception") ∈ Lw) (c4 : Cond.instanceMethod (Bundle.initS Bundle.tN) ∈ Lw)
    (e2 : Cond.code (Bundle.initS "java/lang/RuntimeException") Bundle.six 2 none ∈ Lw) (e3 : Cond.code (Bundle.initS "java/lang/Exception") Bundle.six 2 none ∈ Lw) (e4 : Cond.code (Bundle.initS Bundle.tN) LibCode.Throwable.InitS.code 2 none ∈ Lw) : thW ik ic cls := by
  refine ⟨⟨a1, a2, a3⟩, a4, fun args s hs => ?_⟩
  have hL : ∀ w ∈ (vx_atS RX6 ic cls RTN).filter goodWord, w.before args s = true := fun w hw => hs w (a5 w hw)
  subst hLw
  exact vx_hat hL a6 (vx_c (th_cast rfl hL c1) (vx_c (th_dec hL c2 e2) (vx_c (th_dec hL c3 e3) (vx_c (th_dec hL c4 e4) vx_n))))
set_option maxRecDepth 20000 in
theorem th_IAE : thW 58 62 "java/lang/IllegalArgumentException" := th_mk rfl (by decide +kernel) u1_22 u1_23 (by decide +kernel) (fun w h => List.mem_append_left _ (List.mem_append_left _ (List.mem_append_right _ h))) (by decide +kernel) (by decide +kernel) (by decide +kernel) (by decide +kernel) (by decide +kernel) (by decide +kernel) (by decide +kernel) (by decide +kernel)
set_option maxRecDepth 20000 in
theorem th_ISE : thW 68 72 "java/lang/IllegalStateException" := th_mk rfl (by decide +kernel) u2_0 u2_1 (by decide +kernel) (fun w h => List.mem_append_left _ (List.mem_append_right _ h)) (by decide +kernel) (by decide +kernel) (by decide +kernel) (by decide +kernel) (by decide +kernel) (by decide +kernel) (by decide +kernel) (by decide +kernel)
set_option maxRecDepth 20000 in
theorem th_IOB : thW 200 204 "java/lang/IndexOutOfBoundsException" := th_mk rfl (by decide +kernel) u12_16 u12_17 (by decide +kernel) (fun w h => List.mem_append_right _ h) (by decide +kernel) (by decide +kernel) (by decide +kernel) (by decide +kernel) (by decide +kernel) (by decide +kernel) (by decide +kernel) (by decide +kernel)

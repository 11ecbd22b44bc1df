theorem um_0 {w : Cond} (h : w ∈ wsL_law0_r1) : w ∈ wsL_law := List.mem_append_left _ (List.mem_append_left _ (List.mem_append_left _ (List.mem_append_left _ (List.mem_append_left _ (List.mem_append_left _ (List.mem_append_left _ (List.mem_append_left _ (List.mem_append_left _ (List.mem_append_left _ (List.mem_append_left _ (List.mem_append_left _ h)))))))))))
theorem um_1 {w : Cond} (h : w ∈ wsL_law0_r2) : w ∈ wsL_law := List.mem_append_left _ (List.mem_append_left _ (List.mem_append_left _ (List.mem_append_left _ (List.mem_append_left _ (List.mem_append_left _ (List.mem_append_left _ (List.mem_append_left _ (List.mem_append_left _ (List.mem_append_left _ (List.mem_append_left _ (List.mem_append_right _ (List.mem_append_left _ h))))))))))))
theorem um_2 {w : Cond} (h : w ∈ wsL_law0_r3) : w ∈ wsL_law := List.mem_append_left _ (List.mem_append_left _ (List.mem_append_left _ (List.mem_append_left _ (List.mem_append_left _ (List.mem_append_left _ (List.mem_append_left _ (List.mem_append_left _ (List.mem_append_left _ (List.mem_append_left _ (List.mem_append_left _ (List.mem_append_right _ (List.mem_append_right _ (List.mem_append_left _ h)))))))))))))
theorem um_3 {w : Cond} (h : w ∈ wsL_law0_r4) : w ∈ wsL_law := List.mem_append_left _ (List.mem_append_left _ (List.mem_append_left _ (List.mem_append_left _ (List.mem_append_left _ (List.mem_append_left _ (List.mem_append_left _ (List.mem_append_left _ (List.mem_append_left _ (List.mem_append_left _ (List.mem_append_left _ (List.mem_append_right _ (List.mem_append_right _ (List.mem_append_right _ (List.mem_append_left _ h))))))))))))))
theorem um_4 {w : Cond} (h : w ∈ wsL_law0_r5) : w ∈ wsL_law := List.mem_append_left _ (List.mem_append_left _ (List.mem_append_left _ (List.mem_append_left _ (List.mem_append_left _ (List.mem_append_left _ (List.mem_append_left _ (List.mem_append_left _ (List.mem_append_left _ (List.mem_append_left _ (List.mem_append_left _ (List.mem_append_right _ (List.mem_append_right _ (List.mem_append_right _ (List.mem_append_right _ (List.mem_append_left _ h)))))))))))))))
theorem um_5 {w : Cond} (h : w ∈ wsL_law0_r6) : w ∈ wsL_law := List.mem_append_left _ (List.mem_append_left _ (List.mem_append_left _ (List.mem_append_left _ (List.mem_append_left _ (List.mem_append_left _ (List.mem_append_left _ (List.mem_append_left _ (List.mem_append_left _ (List.mem_append_left _ (List.mem_append_left _ (List.mem_append_right _ (List.mem_append_right _ (List.mem_append_right _ (List.mem_append_right _ (List.mem_append_right _ (List.mem_append_left _ h))))))))))))))))
theorem um_6 {w : Cond} (h : w ∈ wsL_law0_r7) : w ∈ wsL_law := List.mem_append_left _ (List.mem_append_left _ (List.mem_append_left _ (List.mem_append_left _ (List.mem_append_left _ (List.mem_append_left _ (List.mem_append_left _ (List.mem_append_left _ (List.mem_append_left _ (List.mem_append_left _ (List.mem_append_left _ (List.mem_append_right _ (List.mem_append_right _ (List.mem_append_right _ (List.mem_append_right _ (List.mem_append_right _ (List.mem_append_right _ (List.mem_append_left _ h)))))))))))))))))
theorem um_7 {w : Cond} (h : w ∈ wsL_law0_r8) : w ∈ wsL_law := List.mem_append_left _ (List.mem_append_left _ (List.mem_append_left _ (List.mem_append_left _ (List.mem_append_left _ (List.mem_append_left _ (List.mem_append_left _ (List.mem_append_left _ (List.mem_append_left _ (List.mem_append_left _ (List.mem_append_left _ (List.mem_append_right _ (List.mem_append_right _ (List.mem_append_right _ (List.mem_append_right _ (List.mem_append_right _ (List.mem_append_right _ (List.mem_append_right _ (List.mem_append_left _ h))))))))))))))))))
theorem um_8 {w : Cond} (h : w ∈ wsL_law0_r9) : w ∈ wsL_law := List.mem_append_left _ (List.mem_append_left _ (List.mem_append_left _ (List.mem_append_left _ (List.mem_append_left _ (List.mem_append_left _ (List.mem_append_left _ (List.mem_append_left _ (List.mem_append_left _ (List.mem_append_left _ (List.mem_append_left _ (List.mem_append_right _ (List.mem_append_right _ (List.mem_append_right _ (List.mem_append_right _ (List.mem_append_right _ (List.mem_append_right _ (List.mem_append_right _ (List.mem_append_right _ (List.mem_append_left _ h)))))))))))))))))))
theorem um_9 {w : Cond} (h : w ∈ wsL_law0_r10) : w ∈ wsL_law := List.mem_append_left _ (List.mem_append_left _ (List.mem_append_left _ (List.mem_append_left _ (List.mem_append_left _ (List.mem_append_left _ (List.mem_append_left _ (List.mem_append_left _ (List.mem_append_left _ (List.mem_append_left _ (List.mem_append_left _ (List.mem_append_right _ (List.mem_append_right _ (List.mem_append_right _ (List.mem_append_right _ (List.mem_append_right _ (List.mem_append_right _ (List.mem_append_right _ (List.mem_append_right _ (List.mem_append_right _ (List.mem_append_left _ h))))))))))))))))))))
theorem um_10 {w : Cond} (h : w ∈ wsL_law0_r11) : w ∈ wsL_law := List.mem_append_left _ (List.mem_append_left _ (List.mem_append_left _ (List.mem_append_left _ (List.mem_append_left _ (List.mem_append_left _ (List.mem_append_left _ (List.mem_append_left _ (List.mem_append_left _ (List.mem_append_left _ (List.mem_append_left _ (List.mem_append_right _ (List.mem_append_right _ (List.mem_append_right _ (List.mem_append_right _ (List.mem_append_right _ (List.mem_append_right _ (List.mem_append_right _ (List.mem_append_right _ (List.mem_append_right _ (List.mem_append_right _ (List.mem_append_left _ h)))))))))))))))))))))
theorem um_11 {w : Cond} (h : w ∈ wsL_law0_r12) : w ∈ wsL_law := List.mem_append_left _ (List.mem_append_left _ (List.mem_append_left _ (List.mem_append_left _ (List.mem_append_left _ (List.mem_append_left _ (List.mem_append_left _ (List.mem_append_left _ (List.mem_append_left _ (List.mem_append_left _ (List.mem_append_left _ (List.mem_append_right _ (List.mem_append_right _ (List.mem_append_right _ (List.mem_append_right _ (List.mem_append_right _ (List.mem_append_right _ (List.mem_append_right _ (List.mem_append_right _ (List.mem_append_right _ (List.mem_append_right _ (List.mem_append_right _ (List.mem_append_left _ h))))))))))))))))))))))
theorem um_12 {w : Cond} (h : w ∈ wsL_law0_r13) : w ∈ wsL_law := List.mem_append_left _ (List.mem_append_left _ (List.mem_append_left _ (List.mem_append_left _ (List.mem_append_left _ (List.mem_append_left _ (List.mem_append_left _ (List.mem_append_left _ (List.mem_append_left _ (List.mem_append_left _ (List.mem_append_left _ (List.mem_append_right _ (List.mem_append_right _ (List.mem_append_right _ (List.mem_append_right _ (List.mem_append_right _ (List.mem_append_right _ (List.mem_append_right _ (List.mem_append_right _ (List.mem_append_right _ (List.mem_append_right _ (List.mem_append_right _ (List.mem_append_right _ (List.mem_append_left _ h)))))))))))))))))))))))
theorem um_13 {w : Cond} (h : w ∈ wsL_law0_r14) : w ∈ wsL_law := List.mem_append_left _ (List.mem_append_left _ (List.mem_append_left _ (List.mem_append_left _ (List.mem_append_left _ (List.mem_append_left _ (List.mem_append_left _ (List.mem_append_left _ (List.mem_append_left _ (List.mem_append_left _ (List.mem_append_left _ (List.mem_append_right _ (List.mem_append_right _ (List.mem_append_right _ (List.mem_append_right _ (List.mem_append_right _ (List.mem_append_right _ (List.mem_append_right _ (List.mem_append_right _ (List.mem_append_right _ (List.mem_append_right _ (List.mem_append_right _ (List.mem_append_right _ (List.mem_append_right _ (List.mem_append_left _ h))))))))))))))))))))))))
theorem um_14 {w : Cond} (h : w ∈ wsL_law0_r15) : w ∈ wsL_law := List.mem_append_left _ (List.mem_append_left _ (List.mem_append_left _ (List.mem_append_left _ (List.mem_append_left _ (List.mem_append_left _ (List.mem_append_left _ (List.mem_append_left _ (List.mem_append_left _ (List.mem_append_left _ (List.mem_append_left _ (List.mem_append_right _ (List.mem_append_right _ (List.mem_append_right _ (List.mem_append_right _ (List.mem_append_right _ (List.mem_append_right _ (List.mem_append_right _ (List.mem_append_right _ (List.mem_append_right _ (List.mem_append_right _ (List.mem_append_right _ (List.mem_append_right _ (List.mem_append_right _ (List.mem_append_right _ (List.mem_append_left _ h)))))))))))))))))))))))))
theorem um_15 {w : Cond} (h : w ∈ wsL_law0_r16) : w ∈ wsL_law := List.mem_append_left _ (List.mem_append_left _ (List.mem_append_left _ (List.mem_append_left _ (List.mem_append_left _ (List.mem_append_left _ (List.mem_append_left _ (List.mem_append_left _ (List.mem_append_left _ (List.mem_append_left _ (List.mem_append_left _ (List.mem_append_right _ (List.mem_append_right _ (List.mem_append_right _ (List.mem_append_right _ (List.mem_append_right _ (List.mem_append_right _ (List.mem_append_right _ (List.mem_append_right _ (List.mem_append_right _ (List.mem_append_right _ (List.mem_append_right _ (List.mem_append_right _ (List.mem_append_right _ (List.mem_append_right _ (List.mem_append_right _ (List.mem_append_left _ h))))))))))))))))))))))))))
theorem um_16 {w : Cond} (h : w ∈ wsL_law0_r17) : w ∈ wsL_law := List.mem_append_left _ (List.mem_append_left _ (List.mem_append_left _ (List.mem_append_left _ (List.mem_append_left _ (List.mem_append_left _ (List.mem_append_left _ (List.mem_append_left _ (List.mem_append_left _ (List.mem_append_left _ (List.mem_append_left _ (List.mem_append_right _ (List.mem_append_right _ (List.mem_append_right _ (List.mem_append_right _ (List.mem_append_right _ (List.mem_append_right _ (List.mem_append_right _ (List.mem_append_right _ (List.mem_append_right _ (List.mem_append_right _ (List.mem_append_right _ (List.mem_append_right _ (List.mem_append_right _ (List.mem_append_right _ (List.mem_append_right _ (List.mem_append_right _ (h)))))))))))))))))))))))))))
theorem u0_0 : Cond.classLink RL 37 RX6 ∈ wsL_law := um_0 (List.mem_of_getElem? (i := 0) rfl)
theorem u0_1 : Cond.instantiable RX6 12 ∈ wsL_law := um_0 (List.mem_of_getElem? (i := 1) rfl)
theorem u0_2 : Cond.initialized RX6 ∈ wsL_law := um_0 (List.mem_of_getElem? (i := 2) rfl)
theorem u0_3 : Cond.arrayClass .long ∈ wsL_law := um_0 (List.mem_of_getElem? (i := 3) rfl)
theorem u0_4 : Cond.arrayClass .int ∈ wsL_law := um_0 (List.mem_of_getElem? (i := 4) rfl)
theorem u0_5 : Cond.constantLong RL 18 (2048) ∈ wsL_law := um_0 (List.mem_of_getElem? (i := 5) rfl)
theorem u0_6 : Cond.constantLong RL 115 (-1) ∈ wsL_law := um_0 (List.mem_of_getElem? (i := 6) rfl)
theorem u0_7 : Cond.methodLink RL 80 yX6_init ∈ wsL_law := um_0 (List.mem_of_getElem? (i := 7) rfl)
theorem u0_8 : Cond.instanceMethod yX6_init ∈ wsL_law := um_0 (List.mem_of_getElem? (i := 8) rfl)
theorem u0_9 : Cond.code yX6_init cX6_init 2 none ∈ wsL_law := um_0 (List.mem_of_getElem? (i := 9) rfl)
theorem u0_10 : Cond.methodLink RX6 3 objectInit ∈ wsL_law := um_0 (List.mem_of_getElem? (i := 10) rfl)
theorem u0_11 : Cond.instanceMethod objectInit ∈ wsL_law := um_0 (List.mem_of_getElem? (i := 11) rfl)
theorem u0_12 : Cond.code objectInit ⟨#[0xb1]⟩ 1 none ∈ wsL_law := um_0 (List.mem_of_getElem? (i := 12) rfl)
theorem u0_13 : Cond.classLink RX6 9 RX4 ∈ wsL_law := um_0 (List.mem_of_getElem? (i := 13) rfl)
theorem u0_14 : Cond.fieldLink RX6 11 "VisitorLoom" "nodes" "[LVisitorLoom$Node;" ∈ wsL_law := um_0 (List.mem_of_getElem? (i := 14) rfl)
theorem u0_15 : Cond.instantiable RX4 7 ∈ wsL_law := um_0 (List.mem_of_getElem? (i := 15) rfl)
theorem u0_16 : Cond.initialized RX4 ∈ wsL_law := um_0 (List.mem_of_getElem? (i := 16) rfl)
theorem u0_17 : Cond.arrayClass .boolean ∈ wsL_law := um_0 (List.mem_of_getElem? (i := 17) rfl)
theorem u0_18 : Cond.fieldLink RX6 18 "VisitorLoom" "cameNumbers" "[Z" ∈ wsL_law := um_0 (List.mem_of_getElem? (i := 18) rfl)
theorem u0_19 : Cond.classLink RX6 22 RX2 ∈ wsL_law := um_0 (List.mem_of_getElem? (i := 19) rfl)
theorem u0_20 : Cond.instantiable RX2 2 ∈ wsL_law := um_0 (List.mem_of_getElem? (i := 20) rfl)
theorem u0_21 : Cond.initialized RX2 ∈ wsL_law := um_0 (List.mem_of_getElem? (i := 21) rfl)
theorem u0_22 : Cond.fieldLink RX6 25 "VisitorLoom" "chain" "LVisitorLoom$EventChain;" ∈ wsL_law := um_0 (List.mem_of_getElem? (i := 22) rfl)
theorem u0_23 : Cond.classLink RX6 29 RX5 ∈ wsL_law := um_0 (List.mem_of_getElem? (i := 23) rfl)
theorem u1_0 : Cond.instantiable RX5 5 ∈ wsL_law := um_1 (List.mem_of_getElem? (i := 0) rfl)
theorem u1_1 : Cond.initialized RX5 ∈ wsL_law := um_1 (List.mem_of_getElem? (i := 1) rfl)
theorem u1_2 : Cond.fieldLink RX6 32 "VisitorLoom" "cutter" "LVisitorLoom$Session;" ∈ wsL_law := um_1 (List.mem_of_getElem? (i := 2) rfl)
theorem u1_3 : Cond.fieldLink RX6 36 "VisitorLoom" "changesTold" "[I" ∈ wsL_law := um_1 (List.mem_of_getElem? (i := 3) rfl)
theorem u1_4 : Cond.fieldLink RX6 40 "VisitorLoom" "now" "I" ∈ wsL_law := um_1 (List.mem_of_getElem? (i := 4) rfl)
theorem u1_5 : Cond.methodLink RX6 15 yX4_init ∈ wsL_law := um_1 (List.mem_of_getElem? (i := 5) rfl)
theorem u1_6 : Cond.instanceMethod yX4_init ∈ wsL_law := um_1 (List.mem_of_getElem? (i := 6) rfl)
theorem u1_7 : Cond.code yX4_init cX4_init 2 none ∈ wsL_law := um_1 (List.mem_of_getElem? (i := 7) rfl)
theorem u1_8 : Cond.methodLink RX4 3 objectInit ∈ wsL_law := um_1 (List.mem_of_getElem? (i := 8) rfl)
theorem u1_9 : Cond.fieldLink RX4 9 "VisitorLoom$Node" "number" "I" ∈ wsL_law := um_1 (List.mem_of_getElem? (i := 9) rfl)
theorem u1_10 : Cond.classLink RX4 15 RX0 ∈ wsL_law := um_1 (List.mem_of_getElem? (i := 10) rfl)
theorem u1_11 : Cond.fieldLink RX4 17 "VisitorLoom$Node" "latestChanges" "[LVisitorLoom$Change;" ∈ wsL_law := um_1 (List.mem_of_getElem? (i := 11) rfl)
theorem u1_12 : Cond.instanceMethod yX2_init ∈ wsL_law := um_1 (List.mem_of_getElem? (i := 12) rfl)
theorem u1_13 : Cond.code yX2_init cX2_init 1 none ∈ wsL_law := um_1 (List.mem_of_getElem? (i := 13) rfl)
theorem u1_14 : Cond.methodLink RX2 1 objectInit ∈ wsL_law := um_1 (List.mem_of_getElem? (i := 14) rfl)
theorem u1_15 : Cond.instanceMethod yX5_init ∈ wsL_law := um_1 (List.mem_of_getElem? (i := 15) rfl)
theorem u1_16 : Cond.code yX5_init cX5_init 1 none ∈ wsL_law := um_1 (List.mem_of_getElem? (i := 16) rfl)
theorem u1_17 : Cond.methodLink RX5 3 objectInit ∈ wsL_law := um_1 (List.mem_of_getElem? (i := 17) rfl)
theorem u1_18 : Cond.methodLink RL 81 yX6_group ∈ wsL_law := um_1 (List.mem_of_getElem? (i := 18) rfl)
theorem u1_19 : Cond.instanceMethod yX6_group ∈ wsL_law := um_1 (List.mem_of_getElem? (i := 19) rfl)
theorem u1_20 : Cond.selects RX6 yX6_group yX6_group ∈ wsL_law := um_1 (List.mem_of_getElem? (i := 20) rfl)
theorem u1_21 : Cond.code yX6_group cX6_group 6 (some .int) ∈ wsL_law := um_1 (List.mem_of_getElem? (i := 21) rfl)
theorem u1_22 : Cond.classLink RX6 58 "java/lang/IllegalArgumentException" ∈ wsL_law := um_1 (List.mem_of_getElem? (i := 22) rfl)
theorem u1_23 : Cond.initialized "java/lang/IllegalArgumentException" ∈ wsL_law := um_1 (List.mem_of_getElem? (i := 23) rfl)
theorem u2_0 : Cond.classLink RX6 68 "java/lang/IllegalStateException" ∈ wsL_law := um_2 (List.mem_of_getElem? (i := 0) rfl)
theorem u2_1 : Cond.initialized "java/lang/IllegalStateException" ∈ wsL_law := um_2 (List.mem_of_getElem? (i := 1) rfl)
theorem u2_2 : Cond.fieldLink RX6 153 "VisitorLoom" "groupCount" "I" ∈ wsL_law := um_2 (List.mem_of_getElem? (i := 2) rfl)
theorem u2_3 : Cond.classLink RX6 158 RX3 ∈ wsL_law := um_2 (List.mem_of_getElem? (i := 3) rfl)
theorem u2_4 : Cond.instantiable RX3 7 ∈ wsL_law := um_2 (List.mem_of_getElem? (i := 4) rfl)
theorem u2_5 : Cond.initialized RX3 ∈ wsL_law := um_2 (List.mem_of_getElem? (i := 5) rfl)
theorem u2_6 : Cond.fieldLink RX6 163 "VisitorLoom" "lastGroup" "LVisitorLoom$Group;" ∈ wsL_law := um_2 (List.mem_of_getElem? (i := 6) rfl)
theorem u2_7 : Cond.fieldLink RX6 167 "VisitorLoom" "firstGroup" "LVisitorLoom$Group;" ∈ wsL_law := um_2 (List.mem_of_getElem? (i := 7) rfl)
theorem u2_8 : Cond.fieldLink RX6 170 "VisitorLoom$Group" "next" "LVisitorLoom$Group;" ∈ wsL_law := um_2 (List.mem_of_getElem? (i := 8) rfl)
theorem u2_9 : Cond.fieldLink RX6 172 "VisitorLoom$Group" "number" "I" ∈ wsL_law := um_2 (List.mem_of_getElem? (i := 9) rfl)
theorem u2_10 : Cond.methodLink RX6 133 yX6_isPurpose ∈ wsL_law := um_2 (List.mem_of_getElem? (i := 10) rfl)
theorem u2_11 : Cond.static yX6_isPurpose ∈ wsL_law := um_2 (List.mem_of_getElem? (i := 11) rfl)
theorem u2_12 : Cond.code yX6_isPurpose cX6_isPurpose 1 (some .boolean) ∈ wsL_law := um_2 (List.mem_of_getElem? (i := 12) rfl)
theorem u2_13 : Cond.methodLink RX6 51 yX6_isKind ∈ wsL_law := um_2 (List.mem_of_getElem? (i := 13) rfl)
theorem u2_14 : Cond.static yX6_isKind ∈ wsL_law := um_2 (List.mem_of_getElem? (i := 14) rfl)
theorem u2_15 : Cond.code yX6_isKind cX6_isKind 1 (some .boolean) ∈ wsL_law := um_2 (List.mem_of_getElem? (i := 15) rfl)
theorem u2_16 : Cond.methodLink RX6 148 yX6_areDays ∈ wsL_law := um_2 (List.mem_of_getElem? (i := 16) rfl)
theorem u2_17 : Cond.static yX6_areDays ∈ wsL_law := um_2 (List.mem_of_getElem? (i := 17) rfl)
theorem u2_18 : Cond.code yX6_areDays cX6_areDays 1 (some .boolean) ∈ wsL_law := um_2 (List.mem_of_getElem? (i := 18) rfl)
theorem u2_19 : Cond.methodLink RX6 160 yX3_init ∈ wsL_law := um_2 (List.mem_of_getElem? (i := 19) rfl)
theorem u2_20 : Cond.instanceMethod yX3_init ∈ wsL_law := um_2 (List.mem_of_getElem? (i := 20) rfl)
theorem u2_21 : Cond.code yX3_init cX3_init 6 none ∈ wsL_law := um_2 (List.mem_of_getElem? (i := 21) rfl)
theorem u2_22 : Cond.methodLink RX3 1 objectInit ∈ wsL_law := um_2 (List.mem_of_getElem? (i := 22) rfl)
theorem u2_23 : Cond.fieldLink RX3 7 "VisitorLoom$Group" "number" "I" ∈ wsL_law := um_2 (List.mem_of_getElem? (i := 23) rfl)
theorem u3_0 : Cond.fieldLink RX3 13 "VisitorLoom$Group" "purpose" "I" ∈ wsL_law := um_3 (List.mem_of_getElem? (i := 0) rfl)
theorem u3_1 : Cond.fieldLink RX3 16 "VisitorLoom$Group" "kind" "I" ∈ wsL_law := um_3 (List.mem_of_getElem? (i := 1) rfl)
theorem u3_2 : Cond.fieldLink RX3 19 "VisitorLoom$Group" "least" "I" ∈ wsL_law := um_3 (List.mem_of_getElem? (i := 2) rfl)
theorem u3_3 : Cond.fieldLink RX3 22 "VisitorLoom$Group" "days" "I" ∈ wsL_law := um_3 (List.mem_of_getElem? (i := 3) rfl)
theorem u3_4 : Cond.methodLink RL 85 yL_cell ∈ wsL_law := um_3 (List.mem_of_getElem? (i := 4) rfl)
theorem u3_5 : Cond.static yL_cell ∈ wsL_law := um_3 (List.mem_of_getElem? (i := 5) rfl)
theorem u3_6 : Cond.initialized RL ∈ wsL_law := um_3 (List.mem_of_getElem? (i := 6) rfl)
theorem u3_7 : Cond.code yL_cell cL_cell 2 (some .int) ∈ wsL_law := um_3 (List.mem_of_getElem? (i := 7) rfl)
theorem u3_8 : Cond.constant RL 7 (1000308275) ∈ wsL_law := um_3 (List.mem_of_getElem? (i := 8) rfl)
theorem u3_9 : Cond.constant RL 8 (751363449) ∈ wsL_law := um_3 (List.mem_of_getElem? (i := 9) rfl)
theorem u3_10 : Cond.methodLink RL 89 yL_low ∈ wsL_law := um_3 (List.mem_of_getElem? (i := 10) rfl)
theorem u3_11 : Cond.static yL_low ∈ wsL_law := um_3 (List.mem_of_getElem? (i := 11) rfl)
theorem u3_12 : Cond.code yL_low cL_low 2 (some .int) ∈ wsL_law := um_3 (List.mem_of_getElem? (i := 12) rfl)
theorem u3_13 : Cond.constant RL 9 (2147483647) ∈ wsL_law := um_3 (List.mem_of_getElem? (i := 13) rfl)
theorem u3_14 : Cond.methodLink RL 92 yL_finds ∈ wsL_law := um_3 (List.mem_of_getElem? (i := 14) rfl)
theorem u3_15 : Cond.static yL_finds ∈ wsL_law := um_3 (List.mem_of_getElem? (i := 15) rfl)
theorem u3_16 : Cond.code yL_finds cL_finds 11 none ∈ wsL_law := um_3 (List.mem_of_getElem? (i := 16) rfl)
theorem u3_17 : Cond.methodLink RL 28 yL_isGone ∈ wsL_law := um_3 (List.mem_of_getElem? (i := 17) rfl)
theorem u3_18 : Cond.static yL_isGone ∈ wsL_law := um_3 (List.mem_of_getElem? (i := 18) rfl)
theorem u3_19 : Cond.code yL_isGone cL_isGone 2 (some .boolean) ∈ wsL_law := um_3 (List.mem_of_getElem? (i := 19) rfl)
theorem u3_20 : Cond.methodLink RL 22 yL_part ∈ wsL_law := um_3 (List.mem_of_getElem? (i := 20) rfl)
theorem u3_21 : Cond.static yL_part ∈ wsL_law := um_3 (List.mem_of_getElem? (i := 21) rfl)
theorem u3_22 : Cond.code yL_part cL_part 3 (some .int) ∈ wsL_law := um_3 (List.mem_of_getElem? (i := 22) rfl)
theorem u3_23 : Cond.constantLong RL 10 (4) ∈ wsL_law := um_3 (List.mem_of_getElem? (i := 23) rfl)
theorem u4_0 : Cond.constantLong RL 12 (16) ∈ wsL_law := um_4 (List.mem_of_getElem? (i := 0) rfl)
theorem u4_1 : Cond.constantLong RL 14 (8) ∈ wsL_law := um_4 (List.mem_of_getElem? (i := 1) rfl)
theorem u4_2 : Cond.constantLong RL 16 (128) ∈ wsL_law := um_4 (List.mem_of_getElem? (i := 2) rfl)
theorem u4_3 : Cond.constantLong RL 20 (200000) ∈ wsL_law := um_4 (List.mem_of_getElem? (i := 3) rfl)
theorem u4_4 : Cond.methodLink RL 96 yX6_event ∈ wsL_law := um_4 (List.mem_of_getElem? (i := 4) rfl)
theorem u4_5 : Cond.instanceMethod yX6_event ∈ wsL_law := um_4 (List.mem_of_getElem? (i := 5) rfl)
theorem u4_6 : Cond.selects RX6 yX6_event yX6_event ∈ wsL_law := um_4 (List.mem_of_getElem? (i := 6) rfl)
theorem u4_7 : Cond.code yX6_event cX6_event 10 (some .boolean) ∈ wsL_law := um_4 (List.mem_of_getElem? (i := 7) rfl)
theorem u4_8 : Cond.fieldLink RX6 65 "VisitorLoom" "takenCount" "I" ∈ wsL_law := um_4 (List.mem_of_getElem? (i := 8) rfl)
theorem u4_9 : Cond.classLink RX6 73 RX1 ∈ wsL_law := um_4 (List.mem_of_getElem? (i := 9) rfl)
theorem u4_10 : Cond.instantiable RX1 9 ∈ wsL_law := um_4 (List.mem_of_getElem? (i := 10) rfl)
theorem u4_11 : Cond.initialized RX1 ∈ wsL_law := um_4 (List.mem_of_getElem? (i := 11) rfl)
theorem u4_12 : Cond.methodLink RX6 44 yX6_deviceAt ∈ wsL_law := um_4 (List.mem_of_getElem? (i := 12) rfl)
theorem u4_13 : Cond.instanceMethod yX6_deviceAt ∈ wsL_law := um_4 (List.mem_of_getElem? (i := 13) rfl)
theorem u4_14 : Cond.selects RX6 yX6_deviceAt yX6_deviceAt ∈ wsL_law := um_4 (List.mem_of_getElem? (i := 14) rfl)
theorem u4_15 : Cond.code yX6_deviceAt cX6_deviceAt 2 (some (.object "VisitorLoom$Node")) ∈ wsL_law := um_4 (List.mem_of_getElem? (i := 15) rfl)
theorem u4_16 : Cond.methodLink RX6 130 yX6_nodeAt ∈ wsL_law := um_4 (List.mem_of_getElem? (i := 16) rfl)
theorem u4_17 : Cond.instanceMethod yX6_nodeAt ∈ wsL_law := um_4 (List.mem_of_getElem? (i := 17) rfl)
theorem u4_18 : Cond.selects RX6 yX6_nodeAt yX6_nodeAt ∈ wsL_law := um_4 (List.mem_of_getElem? (i := 18) rfl)
theorem u4_19 : Cond.code yX6_nodeAt cX6_nodeAt 2 (some (.object "VisitorLoom$Node")) ∈ wsL_law := um_4 (List.mem_of_getElem? (i := 19) rfl)
theorem u4_20 : Cond.methodLink RX6 48 yX6_accountAt ∈ wsL_law := um_4 (List.mem_of_getElem? (i := 20) rfl)
theorem u4_21 : Cond.instanceMethod yX6_accountAt ∈ wsL_law := um_4 (List.mem_of_getElem? (i := 21) rfl)
theorem u4_22 : Cond.selects RX6 yX6_accountAt yX6_accountAt ∈ wsL_law := um_4 (List.mem_of_getElem? (i := 22) rfl)
theorem u4_23 : Cond.code yX6_accountAt cX6_accountAt 2 (some (.object "VisitorLoom$Node")) ∈ wsL_law := um_4 (List.mem_of_getElem? (i := 23) rfl)
theorem u5_0 : Cond.methodLink RX6 55 yX6_isMinute ∈ wsL_law := um_5 (List.mem_of_getElem? (i := 0) rfl)
theorem u5_1 : Cond.static yX6_isMinute ∈ wsL_law := um_5 (List.mem_of_getElem? (i := 1) rfl)
theorem u5_2 : Cond.code yX6_isMinute cX6_isMinute 1 (some .boolean) ∈ wsL_law := um_5 (List.mem_of_getElem? (i := 2) rfl)
theorem u5_3 : Cond.constant RX6 190 (100000) ∈ wsL_law := um_5 (List.mem_of_getElem? (i := 3) rfl)
theorem u5_4 : Cond.methodLink RX6 75 yX1_init ∈ wsL_law := um_5 (List.mem_of_getElem? (i := 4) rfl)
theorem u5_5 : Cond.instanceMethod yX1_init ∈ wsL_law := um_5 (List.mem_of_getElem? (i := 5) rfl)
theorem u5_6 : Cond.code yX1_init cX1_init 8 none ∈ wsL_law := um_5 (List.mem_of_getElem? (i := 6) rfl)
theorem u5_7 : Cond.methodLink RX1 3 objectInit ∈ wsL_law := um_5 (List.mem_of_getElem? (i := 7) rfl)
theorem u5_8 : Cond.fieldLink RX1 9 "VisitorLoom$Event" "number" "I" ∈ wsL_law := um_5 (List.mem_of_getElem? (i := 8) rfl)
theorem u5_9 : Cond.fieldLink RX1 15 "VisitorLoom$Event" "device" "LVisitorLoom$Node;" ∈ wsL_law := um_5 (List.mem_of_getElem? (i := 9) rfl)
theorem u5_10 : Cond.fieldLink RX1 19 "VisitorLoom$Event" "account" "LVisitorLoom$Node;" ∈ wsL_law := um_5 (List.mem_of_getElem? (i := 10) rfl)
theorem u5_11 : Cond.fieldLink RX1 22 "VisitorLoom$Event" "kind" "I" ∈ wsL_law := um_5 (List.mem_of_getElem? (i := 11) rfl)
theorem u5_12 : Cond.fieldLink RX1 25 "VisitorLoom$Event" "campaign" "I" ∈ wsL_law := um_5 (List.mem_of_getElem? (i := 12) rfl)
theorem u5_13 : Cond.fieldLink RX1 28 "VisitorLoom$Event" "toldMinute" "I" ∈ wsL_law := um_5 (List.mem_of_getElem? (i := 13) rfl)
theorem u5_14 : Cond.fieldLink RX1 31 "VisitorLoom$Event" "rank" "I" ∈ wsL_law := um_5 (List.mem_of_getElem? (i := 14) rfl)
theorem u5_15 : Cond.methodLink RX6 78 yX2_put ∈ wsL_law := um_5 (List.mem_of_getElem? (i := 15) rfl)
theorem u5_16 : Cond.instanceMethod yX2_put ∈ wsL_law := um_5 (List.mem_of_getElem? (i := 16) rfl)
theorem u5_17 : Cond.selects RX2 yX2_put yX2_put ∈ wsL_law := um_5 (List.mem_of_getElem? (i := 17) rfl)
theorem u5_18 : Cond.code yX2_put cX2_put 4 none ∈ wsL_law := um_5 (List.mem_of_getElem? (i := 18) rfl)
theorem u5_19 : Cond.fieldLink RX2 7 "VisitorLoom$EventChain" "last" "LVisitorLoom$Event;" ∈ wsL_law := um_5 (List.mem_of_getElem? (i := 19) rfl)
theorem u5_20 : Cond.fieldLink RX2 19 "VisitorLoom$EventChain" "first" "LVisitorLoom$Event;" ∈ wsL_law := um_5 (List.mem_of_getElem? (i := 20) rfl)
theorem u5_21 : Cond.fieldLink RX2 22 "VisitorLoom$Event" "next" "LVisitorLoom$Event;" ∈ wsL_law := um_5 (List.mem_of_getElem? (i := 21) rfl)
theorem u5_22 : Cond.methodLink RX2 13 yX1_isBefore ∈ wsL_law := um_5 (List.mem_of_getElem? (i := 22) rfl)
theorem u5_23 : Cond.instanceMethod yX1_isBefore ∈ wsL_law := um_5 (List.mem_of_getElem? (i := 23) rfl)
theorem u6_0 : Cond.selects RX1 yX1_isBefore yX1_isBefore ∈ wsL_law := um_6 (List.mem_of_getElem? (i := 0) rfl)
theorem u6_1 : Cond.code yX1_isBefore cX1_isBefore 4 (some .boolean) ∈ wsL_law := um_6 (List.mem_of_getElem? (i := 1) rfl)
theorem u6_2 : Cond.methodLink RX1 45 yX1_minute ∈ wsL_law := um_6 (List.mem_of_getElem? (i := 2) rfl)
theorem u6_3 : Cond.instanceMethod yX1_minute ∈ wsL_law := um_6 (List.mem_of_getElem? (i := 3) rfl)
theorem u6_4 : Cond.selects RX1 yX1_minute yX1_minute ∈ wsL_law := um_6 (List.mem_of_getElem? (i := 4) rfl)
theorem u6_5 : Cond.code yX1_minute cX1_minute 1 (some .int) ∈ wsL_law := um_6 (List.mem_of_getElem? (i := 5) rfl)
theorem u6_6 : Cond.fieldLink RX1 34 "VisitorLoom$Node" "skew" "I" ∈ wsL_law := um_6 (List.mem_of_getElem? (i := 6) rfl)
theorem u6_7 : Cond.methodLink RX1 39 Lib.Math.max.name ∈ wsL_law := um_6 (List.mem_of_getElem? (i := 7) rfl)
theorem u6_8 : Cond.static Lib.Math.max.name ∈ wsL_law := um_6 (List.mem_of_getElem? (i := 8) rfl)
theorem u6_9 : Cond.initialized "java/lang/Math" ∈ wsL_law := um_6 (List.mem_of_getElem? (i := 9) rfl)
theorem u6_10 : Cond.code Lib.Math.max.name Lib.Math.max.code 2 (some .int) ∈ wsL_law := um_6 (List.mem_of_getElem? (i := 10) rfl)
theorem u6_11 : Cond.methodLink RX6 82 yX6_joinBy ∈ wsL_law := um_6 (List.mem_of_getElem? (i := 11) rfl)
theorem u6_12 : Cond.instanceMethod yX6_joinBy ∈ wsL_law := um_6 (List.mem_of_getElem? (i := 12) rfl)
theorem u6_13 : Cond.selects RX6 yX6_joinBy yX6_joinBy ∈ wsL_law := um_6 (List.mem_of_getElem? (i := 13) rfl)
theorem u6_14 : Cond.code yX6_joinBy cX6_joinBy 3 none ∈ wsL_law := um_6 (List.mem_of_getElem? (i := 14) rfl)
theorem u6_15 : Cond.fieldLink RX6 94 "VisitorLoom$Event" "device" "LVisitorLoom$Node;" ∈ wsL_law := um_6 (List.mem_of_getElem? (i := 15) rfl)
theorem u6_16 : Cond.methodLink RX6 261 yX1_linkedAccount ∈ wsL_law := um_6 (List.mem_of_getElem? (i := 16) rfl)
theorem u6_17 : Cond.instanceMethod yX1_linkedAccount ∈ wsL_law := um_6 (List.mem_of_getElem? (i := 17) rfl)
theorem u6_18 : Cond.selects RX1 yX1_linkedAccount yX1_linkedAccount ∈ wsL_law := um_6 (List.mem_of_getElem? (i := 18) rfl)
theorem u6_19 : Cond.code yX1_linkedAccount cX1_linkedAccount 1 (some (.object "VisitorLoom$Node")) ∈ wsL_law := um_6 (List.mem_of_getElem? (i := 19) rfl)
theorem u6_20 : Cond.fieldLink RX1 49 "VisitorLoom$Node" "isShared" "Z" ∈ wsL_law := um_6 (List.mem_of_getElem? (i := 20) rfl)
theorem u6_21 : Cond.methodLink RX1 53 yX4_mayLink ∈ wsL_law := um_6 (List.mem_of_getElem? (i := 21) rfl)
theorem u6_22 : Cond.instanceMethod yX4_mayLink ∈ wsL_law := um_6 (List.mem_of_getElem? (i := 22) rfl)
theorem u6_23 : Cond.selects RX4 yX4_mayLink yX4_mayLink ∈ wsL_law := um_6 (List.mem_of_getElem? (i := 23) rfl)
theorem u7_0 : Cond.code yX4_mayLink cX4_mayLink 2 (some .boolean) ∈ wsL_law := um_7 (List.mem_of_getElem? (i := 0) rfl)
theorem u7_1 : Cond.fieldLink RX4 25 "VisitorLoom$Node" "withdrawnAccounts" "I" ∈ wsL_law := um_7 (List.mem_of_getElem? (i := 1) rfl)
theorem u7_2 : Cond.methodLink RX4 28 yX4_bit ∈ wsL_law := um_7 (List.mem_of_getElem? (i := 2) rfl)
theorem u7_3 : Cond.instanceMethod yX4_bit ∈ wsL_law := um_7 (List.mem_of_getElem? (i := 3) rfl)
theorem u7_4 : Cond.selects RX4 yX4_bit yX4_bit ∈ wsL_law := um_7 (List.mem_of_getElem? (i := 4) rfl)
theorem u7_5 : Cond.code yX4_bit cX4_bit 1 (some .int) ∈ wsL_law := um_7 (List.mem_of_getElem? (i := 5) rfl)
theorem u7_6 : Cond.methodLink RX6 178 yX4_lowest ∈ wsL_law := um_7 (List.mem_of_getElem? (i := 6) rfl)
theorem u7_7 : Cond.instanceMethod yX4_lowest ∈ wsL_law := um_7 (List.mem_of_getElem? (i := 7) rfl)
theorem u7_8 : Cond.selects RX4 yX4_lowest yX4_lowest ∈ wsL_law := um_7 (List.mem_of_getElem? (i := 8) rfl)
theorem u7_9 : Cond.code yX4_lowest cX4_lowest 1 (some (.object "VisitorLoom$Node")) ∈ wsL_law := um_7 (List.mem_of_getElem? (i := 9) rfl)
theorem u7_10 : Cond.fieldLink RX4 21 "VisitorLoom$Node" "lower" "LVisitorLoom$Node;" ∈ wsL_law := um_7 (List.mem_of_getElem? (i := 10) rfl)
theorem u7_11 : Cond.methodLink RX6 264 yX6_join ∈ wsL_law := um_7 (List.mem_of_getElem? (i := 11) rfl)
theorem u7_12 : Cond.instanceMethod yX6_join ∈ wsL_law := um_7 (List.mem_of_getElem? (i := 12) rfl)
theorem u7_13 : Cond.selects RX6 yX6_join yX6_join ∈ wsL_law := um_7 (List.mem_of_getElem? (i := 13) rfl)
theorem u7_14 : Cond.code yX6_join cX6_join 9 none ∈ wsL_law := um_7 (List.mem_of_getElem? (i := 14) rfl)
theorem u7_15 : Cond.fieldLink RX6 193 "VisitorLoom$Node" "number" "I" ∈ wsL_law := um_7 (List.mem_of_getElem? (i := 15) rfl)
theorem u7_16 : Cond.methodLink RX6 268 yX4_joinTo ∈ wsL_law := um_7 (List.mem_of_getElem? (i := 16) rfl)
theorem u7_17 : Cond.instanceMethod yX4_joinTo ∈ wsL_law := um_7 (List.mem_of_getElem? (i := 17) rfl)
theorem u7_18 : Cond.selects RX4 yX4_joinTo yX4_joinTo ∈ wsL_law := um_7 (List.mem_of_getElem? (i := 18) rfl)
theorem u7_19 : Cond.code yX4_joinTo cX4_joinTo 2 none ∈ wsL_law := um_7 (List.mem_of_getElem? (i := 19) rfl)
theorem u7_20 : Cond.methodLink RL 100 yX6_skew ∈ wsL_law := um_7 (List.mem_of_getElem? (i := 20) rfl)
theorem u7_21 : Cond.instanceMethod yX6_skew ∈ wsL_law := um_7 (List.mem_of_getElem? (i := 21) rfl)
theorem u7_22 : Cond.selects RX6 yX6_skew yX6_skew ∈ wsL_law := um_7 (List.mem_of_getElem? (i := 22) rfl)
theorem u7_23 : Cond.code yX6_skew cX6_skew 6 (some .int) ∈ wsL_law := um_7 (List.mem_of_getElem? (i := 23) rfl)
theorem u8_0 : Cond.fieldLink RX6 87 "VisitorLoom$Node" "skew" "I" ∈ wsL_law := um_8 (List.mem_of_getElem? (i := 0) rfl)
theorem u8_1 : Cond.fieldLink RX6 90 "VisitorLoom$EventChain" "first" "LVisitorLoom$Event;" ∈ wsL_law := um_8 (List.mem_of_getElem? (i := 1) rfl)
theorem u8_2 : Cond.fieldLink RX6 98 "VisitorLoom$Event" "isMarked" "Z" ∈ wsL_law := um_8 (List.mem_of_getElem? (i := 2) rfl)
theorem u8_3 : Cond.fieldLink RX6 102 "VisitorLoom$Event" "next" "LVisitorLoom$Event;" ∈ wsL_law := um_8 (List.mem_of_getElem? (i := 3) rfl)
theorem u8_4 : Cond.methodLink RX6 105 yX2_takeMarked ∈ wsL_law := um_8 (List.mem_of_getElem? (i := 4) rfl)
theorem u8_5 : Cond.instanceMethod yX2_takeMarked ∈ wsL_law := um_8 (List.mem_of_getElem? (i := 5) rfl)
theorem u8_6 : Cond.selects RX2 yX2_takeMarked yX2_takeMarked ∈ wsL_law := um_8 (List.mem_of_getElem? (i := 6) rfl)
theorem u8_7 : Cond.code yX2_takeMarked cX2_takeMarked 5 (some (.object "VisitorLoom$Event")) ∈ wsL_law := um_8 (List.mem_of_getElem? (i := 7) rfl)
theorem u8_8 : Cond.fieldLink RX2 29 "VisitorLoom$Event" "isMarked" "Z" ∈ wsL_law := um_8 (List.mem_of_getElem? (i := 8) rfl)
theorem u8_9 : Cond.methodLink RX6 109 yX2_putEach ∈ wsL_law := um_8 (List.mem_of_getElem? (i := 9) rfl)
theorem u8_10 : Cond.instanceMethod yX2_putEach ∈ wsL_law := um_8 (List.mem_of_getElem? (i := 10) rfl)
theorem u8_11 : Cond.selects RX2 yX2_putEach yX2_putEach ∈ wsL_law := um_8 (List.mem_of_getElem? (i := 11) rfl)
theorem u8_12 : Cond.code yX2_putEach cX2_putEach 4 none ∈ wsL_law := um_8 (List.mem_of_getElem? (i := 12) rfl)
theorem u8_13 : Cond.methodLink RX2 25 yX2_put ∈ wsL_law := um_8 (List.mem_of_getElem? (i := 13) rfl)
theorem u8_14 : Cond.methodLink RL 103 yX6_share ∈ wsL_law := um_8 (List.mem_of_getElem? (i := 14) rfl)
theorem u8_15 : Cond.instanceMethod yX6_share ∈ wsL_law := um_8 (List.mem_of_getElem? (i := 15) rfl)
theorem u8_16 : Cond.selects RX6 yX6_share yX6_share ∈ wsL_law := um_8 (List.mem_of_getElem? (i := 16) rfl)
theorem u8_17 : Cond.code yX6_share cX6_share 5 (some .boolean) ∈ wsL_law := um_8 (List.mem_of_getElem? (i := 17) rfl)
theorem u8_18 : Cond.fieldLink RX6 114 "VisitorLoom$Node" "isShared" "Z" ∈ wsL_law := um_8 (List.mem_of_getElem? (i := 18) rfl)
theorem u8_19 : Cond.methodLink RX6 117 yX6_findProfiles ∈ wsL_law := um_8 (List.mem_of_getElem? (i := 19) rfl)
theorem u8_20 : Cond.instanceMethod yX6_findProfiles ∈ wsL_law := um_8 (List.mem_of_getElem? (i := 20) rfl)
theorem u8_21 : Cond.selects RX6 yX6_findProfiles yX6_findProfiles ∈ wsL_law := um_8 (List.mem_of_getElem? (i := 21) rfl)
theorem u8_22 : Cond.code yX6_findProfiles cX6_findProfiles 5 none ∈ wsL_law := um_8 (List.mem_of_getElem? (i := 22) rfl)
theorem u8_23 : Cond.methodLink RX6 258 yX4_standAlone ∈ wsL_law := um_8 (List.mem_of_getElem? (i := 23) rfl)
theorem u9_0 : Cond.instanceMethod yX4_standAlone ∈ wsL_law := um_9 (List.mem_of_getElem? (i := 0) rfl)
theorem u9_1 : Cond.selects RX4 yX4_standAlone yX4_standAlone ∈ wsL_law := um_9 (List.mem_of_getElem? (i := 1) rfl)
theorem u9_2 : Cond.code yX4_standAlone cX4_standAlone 1 none ∈ wsL_law := um_9 (List.mem_of_getElem? (i := 2) rfl)
theorem u9_3 : Cond.methodLink RL 107 yX6_link ∈ wsL_law := um_9 (List.mem_of_getElem? (i := 3) rfl)
theorem u9_4 : Cond.instanceMethod yX6_link ∈ wsL_law := um_9 (List.mem_of_getElem? (i := 4) rfl)
theorem u9_5 : Cond.selects RX6 yX6_link yX6_link ∈ wsL_law := um_9 (List.mem_of_getElem? (i := 5) rfl)
theorem u9_6 : Cond.code yX6_link cX6_link 7 (some .boolean) ∈ wsL_law := um_9 (List.mem_of_getElem? (i := 6) rfl)
theorem u9_7 : Cond.methodLink RX6 122 yX4_mayLink ∈ wsL_law := um_9 (List.mem_of_getElem? (i := 7) rfl)
theorem u9_8 : Cond.methodLink RX6 126 yX4_setMayLink ∈ wsL_law := um_9 (List.mem_of_getElem? (i := 8) rfl)
theorem u9_9 : Cond.instanceMethod yX4_setMayLink ∈ wsL_law := um_9 (List.mem_of_getElem? (i := 9) rfl)
theorem u9_10 : Cond.selects RX4 yX4_setMayLink yX4_setMayLink ∈ wsL_law := um_9 (List.mem_of_getElem? (i := 10) rfl)
theorem u9_11 : Cond.code yX4_setMayLink cX4_setMayLink 3 none ∈ wsL_law := um_9 (List.mem_of_getElem? (i := 11) rfl)
theorem u9_12 : Cond.methodLink RL 111 yX6_consent ∈ wsL_law := um_9 (List.mem_of_getElem? (i := 12) rfl)
theorem u9_13 : Cond.instanceMethod yX6_consent ∈ wsL_law := um_9 (List.mem_of_getElem? (i := 13) rfl)
theorem u9_14 : Cond.selects RX6 yX6_consent yX6_consent ∈ wsL_law := um_9 (List.mem_of_getElem? (i := 14) rfl)
theorem u9_15 : Cond.code yX6_consent cX6_consent 7 (some .int) ∈ wsL_law := um_9 (List.mem_of_getElem? (i := 15) rfl)
theorem u9_16 : Cond.methodLink RX6 138 yX4_changesFor ∈ wsL_law := um_9 (List.mem_of_getElem? (i := 16) rfl)
theorem u9_17 : Cond.instanceMethod yX4_changesFor ∈ wsL_law := um_9 (List.mem_of_getElem? (i := 17) rfl)
theorem u9_18 : Cond.selects RX4 yX4_changesFor yX4_changesFor ∈ wsL_law := um_9 (List.mem_of_getElem? (i := 18) rfl)
theorem u9_19 : Cond.code yX4_changesFor cX4_changesFor 4 (some .int) ∈ wsL_law := um_9 (List.mem_of_getElem? (i := 19) rfl)
theorem u9_20 : Cond.fieldLink RX4 36 "VisitorLoom$Change" "earlier" "LVisitorLoom$Change;" ∈ wsL_law := um_9 (List.mem_of_getElem? (i := 20) rfl)
theorem u9_21 : Cond.methodLink RX4 32 yX4_latestChange ∈ wsL_law := um_9 (List.mem_of_getElem? (i := 21) rfl)
theorem u9_22 : Cond.instanceMethod yX4_latestChange ∈ wsL_law := um_9 (List.mem_of_getElem? (i := 22) rfl)
theorem u9_23 : Cond.selects RX4 yX4_latestChange yX4_latestChange ∈ wsL_law := um_9 (List.mem_of_getElem? (i := 23) rfl)
theorem u10_0 : Cond.code yX4_latestChange cX4_latestChange 2 (some (.object "VisitorLoom$Change")) ∈ wsL_law := um_10 (List.mem_of_getElem? (i := 0) rfl)
theorem u10_1 : Cond.methodLink RX6 144 yX4_addChange ∈ wsL_law := um_10 (List.mem_of_getElem? (i := 1) rfl)
theorem u10_2 : Cond.instanceMethod yX4_addChange ∈ wsL_law := um_10 (List.mem_of_getElem? (i := 2) rfl)
theorem u10_3 : Cond.selects RX4 yX4_addChange yX4_addChange ∈ wsL_law := um_10 (List.mem_of_getElem? (i := 3) rfl)
theorem u10_4 : Cond.code yX4_addChange cX4_addChange 7 none ∈ wsL_law := um_10 (List.mem_of_getElem? (i := 4) rfl)
theorem u10_5 : Cond.fieldLink RX4 44 "VisitorLoom$Change" "from" "I" ∈ wsL_law := um_10 (List.mem_of_getElem? (i := 5) rfl)
theorem u10_6 : Cond.instantiable RX0 3 ∈ wsL_law := um_10 (List.mem_of_getElem? (i := 6) rfl)
theorem u10_7 : Cond.initialized RX0 ∈ wsL_law := um_10 (List.mem_of_getElem? (i := 7) rfl)
theorem u10_8 : Cond.methodLink RX4 47 yX0_init ∈ wsL_law := um_10 (List.mem_of_getElem? (i := 8) rfl)
theorem u10_9 : Cond.instanceMethod yX0_init ∈ wsL_law := um_10 (List.mem_of_getElem? (i := 9) rfl)
theorem u10_10 : Cond.code yX0_init cX0_init 4 none ∈ wsL_law := um_10 (List.mem_of_getElem? (i := 10) rfl)
theorem u10_11 : Cond.methodLink RX0 1 objectInit ∈ wsL_law := um_10 (List.mem_of_getElem? (i := 11) rfl)
theorem u10_12 : Cond.fieldLink RX0 7 "VisitorLoom$Change" "from" "I" ∈ wsL_law := um_10 (List.mem_of_getElem? (i := 12) rfl)
theorem u10_13 : Cond.fieldLink RX0 13 "VisitorLoom$Change" "isGiven" "Z" ∈ wsL_law := um_10 (List.mem_of_getElem? (i := 13) rfl)
theorem u10_14 : Cond.fieldLink RX0 17 "VisitorLoom$Change" "earlier" "LVisitorLoom$Change;" ∈ wsL_law := um_10 (List.mem_of_getElem? (i := 14) rfl)
theorem u10_15 : Cond.methodLink RL 45 yL_belongs ∈ wsL_law := um_10 (List.mem_of_getElem? (i := 15) rfl)
theorem u10_16 : Cond.static yL_belongs ∈ wsL_law := um_10 (List.mem_of_getElem? (i := 16) rfl)
theorem u10_17 : Cond.code yL_belongs cL_belongs 7 (some .boolean) ∈ wsL_law := um_10 (List.mem_of_getElem? (i := 17) rfl)
theorem u10_18 : Cond.methodLink RL 117 yX6_forget ∈ wsL_law := um_10 (List.mem_of_getElem? (i := 18) rfl)
theorem u10_19 : Cond.instanceMethod yX6_forget ∈ wsL_law := um_10 (List.mem_of_getElem? (i := 19) rfl)
theorem u10_20 : Cond.selects RX6 yX6_forget yX6_forget ∈ wsL_law := um_10 (List.mem_of_getElem? (i := 20) rfl)
theorem u10_21 : Cond.code yX6_forget cX6_forget 8 (some .int) ∈ wsL_law := um_10 (List.mem_of_getElem? (i := 21) rfl)
theorem u10_22 : Cond.methodLink RX6 175 yX6_neededNode ∈ wsL_law := um_10 (List.mem_of_getElem? (i := 22) rfl)
theorem u10_23 : Cond.instanceMethod yX6_neededNode ∈ wsL_law := um_10 (List.mem_of_getElem? (i := 23) rfl)
theorem u11_0 : Cond.selects RX6 yX6_neededNode yX6_neededNode ∈ wsL_law := um_11 (List.mem_of_getElem? (i := 0) rfl)
theorem u11_1 : Cond.code yX6_neededNode cX6_neededNode 3 (some (.object "VisitorLoom$Node")) ∈ wsL_law := um_11 (List.mem_of_getElem? (i := 1) rfl)
theorem u11_2 : Cond.methodLink RX6 182 yX1_isOf ∈ wsL_law := um_11 (List.mem_of_getElem? (i := 2) rfl)
theorem u11_3 : Cond.instanceMethod yX1_isOf ∈ wsL_law := um_11 (List.mem_of_getElem? (i := 3) rfl)
theorem u11_4 : Cond.selects RX1 yX1_isOf yX1_isOf ∈ wsL_law := um_11 (List.mem_of_getElem? (i := 4) rfl)
theorem u11_5 : Cond.code yX1_isOf cX1_isOf 2 (some .boolean) ∈ wsL_law := um_11 (List.mem_of_getElem? (i := 5) rfl)
theorem u11_6 : Cond.methodLink RX1 57 yX1_owner ∈ wsL_law := um_11 (List.mem_of_getElem? (i := 6) rfl)
theorem u11_7 : Cond.instanceMethod yX1_owner ∈ wsL_law := um_11 (List.mem_of_getElem? (i := 7) rfl)
theorem u11_8 : Cond.selects RX1 yX1_owner yX1_owner ∈ wsL_law := um_11 (List.mem_of_getElem? (i := 8) rfl)
theorem u11_9 : Cond.code yX1_owner cX1_owner 1 (some (.object "VisitorLoom$Node")) ∈ wsL_law := um_11 (List.mem_of_getElem? (i := 9) rfl)
theorem u11_10 : Cond.methodLink RX1 61 yX4_lowest ∈ wsL_law := um_11 (List.mem_of_getElem? (i := 10) rfl)
theorem u11_11 : Cond.methodLink RX6 185 yX4_clearChanges ∈ wsL_law := um_11 (List.mem_of_getElem? (i := 11) rfl)
theorem u11_12 : Cond.instanceMethod yX4_clearChanges ∈ wsL_law := um_11 (List.mem_of_getElem? (i := 12) rfl)
theorem u11_13 : Cond.selects RX4 yX4_clearChanges yX4_clearChanges ∈ wsL_law := um_11 (List.mem_of_getElem? (i := 13) rfl)
theorem u11_14 : Cond.code yX4_clearChanges cX4_clearChanges 2 none ∈ wsL_law := um_11 (List.mem_of_getElem? (i := 14) rfl)
theorem u11_15 : Cond.methodLink RL 120 yX6_pass ∈ wsL_law := um_11 (List.mem_of_getElem? (i := 15) rfl)
theorem u11_16 : Cond.instanceMethod yX6_pass ∈ wsL_law := um_11 (List.mem_of_getElem? (i := 16) rfl)
theorem u11_17 : Cond.selects RX6 yX6_pass yX6_pass ∈ wsL_law := um_11 (List.mem_of_getElem? (i := 17) rfl)
theorem u11_18 : Cond.code yX6_pass cX6_pass 2 (some .int) ∈ wsL_law := um_11 (List.mem_of_getElem? (i := 18) rfl)
theorem u11_19 : Cond.methodLink RL 123 yL_same ∈ wsL_law := um_11 (List.mem_of_getElem? (i := 19) rfl)
theorem u11_20 : Cond.static yL_same ∈ wsL_law := um_11 (List.mem_of_getElem? (i := 20) rfl)
theorem u11_21 : Cond.code yL_same cL_same 20 (some .boolean) ∈ wsL_law := um_11 (List.mem_of_getElem? (i := 21) rfl)
theorem u11_22 : Cond.methodLink RL 36 yX6_profile ∈ wsL_law := um_11 (List.mem_of_getElem? (i := 22) rfl)
theorem u11_23 : Cond.instanceMethod yX6_profile ∈ wsL_law := um_11 (List.mem_of_getElem? (i := 23) rfl)
theorem u12_0 : Cond.selects RX6 yX6_profile yX6_profile ∈ wsL_law := um_12 (List.mem_of_getElem? (i := 0) rfl)
theorem u12_1 : Cond.code yX6_profile cX6_profile 2 (some .int) ∈ wsL_law := um_12 (List.mem_of_getElem? (i := 1) rfl)
theorem u12_2 : Cond.methodLink RL 42 yX6_profileAnew ∈ wsL_law := um_12 (List.mem_of_getElem? (i := 2) rfl)
theorem u12_3 : Cond.instanceMethod yX6_profileAnew ∈ wsL_law := um_12 (List.mem_of_getElem? (i := 3) rfl)
theorem u12_4 : Cond.selects RX6 yX6_profileAnew yX6_profileAnew ∈ wsL_law := um_12 (List.mem_of_getElem? (i := 4) rfl)
theorem u12_5 : Cond.code yX6_profileAnew cX6_profileAnew 3 (some .int) ∈ wsL_law := um_12 (List.mem_of_getElem? (i := 5) rfl)
theorem u12_6 : Cond.methodLink RL 49 yL_isAhead ∈ wsL_law := um_12 (List.mem_of_getElem? (i := 6) rfl)
theorem u12_7 : Cond.static yL_isAhead ∈ wsL_law := um_12 (List.mem_of_getElem? (i := 7) rfl)
theorem u12_8 : Cond.code yL_isAhead cL_isAhead 4 (some .boolean) ∈ wsL_law := um_12 (List.mem_of_getElem? (i := 8) rfl)
theorem u12_9 : Cond.methodLink RL 32 yL_time ∈ wsL_law := um_12 (List.mem_of_getElem? (i := 9) rfl)
theorem u12_10 : Cond.static yL_time ∈ wsL_law := um_12 (List.mem_of_getElem? (i := 10) rfl)
theorem u12_11 : Cond.code yL_time cL_time 4 (some .int) ∈ wsL_law := um_12 (List.mem_of_getElem? (i := 11) rfl)
theorem u12_12 : Cond.methodLink RL 53 yX6_session ∈ wsL_law := um_12 (List.mem_of_getElem? (i := 12) rfl)
theorem u12_13 : Cond.instanceMethod yX6_session ∈ wsL_law := um_12 (List.mem_of_getElem? (i := 13) rfl)
theorem u12_14 : Cond.selects RX6 yX6_session yX6_session ∈ wsL_law := um_12 (List.mem_of_getElem? (i := 14) rfl)
theorem u12_15 : Cond.code yX6_session cX6_session 5 (some .int) ∈ wsL_law := um_12 (List.mem_of_getElem? (i := 15) rfl)
theorem u12_16 : Cond.classLink RX6 200 "java/lang/IndexOutOfBoundsException" ∈ wsL_law := um_12 (List.mem_of_getElem? (i := 16) rfl)
theorem u12_17 : Cond.initialized "java/lang/IndexOutOfBoundsException" ∈ wsL_law := um_12 (List.mem_of_getElem? (i := 17) rfl)
theorem u12_18 : Cond.fieldLink RX6 213 "VisitorLoom$Session" "begun" "I" ∈ wsL_law := um_12 (List.mem_of_getElem? (i := 18) rfl)
theorem u12_19 : Cond.fieldLink RX6 220 "VisitorLoom$Session" "firstMinute" "I" ∈ wsL_law := um_12 (List.mem_of_getElem? (i := 19) rfl)
theorem u12_20 : Cond.fieldLink RX6 223 "VisitorLoom$Session" "lastMinute" "I" ∈ wsL_law := um_12 (List.mem_of_getElem? (i := 20) rfl)
theorem u12_21 : Cond.fieldLink RX6 226 "VisitorLoom$Session" "size" "I" ∈ wsL_law := um_12 (List.mem_of_getElem? (i := 21) rfl)
theorem u12_22 : Cond.fieldLink RX6 229 "VisitorLoom$Session" "campaign" "I" ∈ wsL_law := um_12 (List.mem_of_getElem? (i := 22) rfl)
theorem u12_23 : Cond.methodLink RX6 209 yX6_cutUpTo ∈ wsL_law := um_12 (List.mem_of_getElem? (i := 23) rfl)
theorem u13_0 : Cond.instanceMethod yX6_cutUpTo ∈ wsL_law := um_13 (List.mem_of_getElem? (i := 0) rfl)
theorem u13_1 : Cond.selects RX6 yX6_cutUpTo yX6_cutUpTo ∈ wsL_law := um_13 (List.mem_of_getElem? (i := 1) rfl)
theorem u13_2 : Cond.code yX6_cutUpTo cX6_cutUpTo 5 none ∈ wsL_law := um_13 (List.mem_of_getElem? (i := 2) rfl)
theorem u13_3 : Cond.methodLink RX6 272 yX5_restart ∈ wsL_law := um_13 (List.mem_of_getElem? (i := 3) rfl)
theorem u13_4 : Cond.instanceMethod yX5_restart ∈ wsL_law := um_13 (List.mem_of_getElem? (i := 4) rfl)
theorem u13_5 : Cond.selects RX5 yX5_restart yX5_restart ∈ wsL_law := um_13 (List.mem_of_getElem? (i := 5) rfl)
theorem u13_6 : Cond.code yX5_restart cX5_restart 1 none ∈ wsL_law := um_13 (List.mem_of_getElem? (i := 6) rfl)
theorem u13_7 : Cond.fieldLink RX5 9 "VisitorLoom$Session" "begun" "I" ∈ wsL_law := um_13 (List.mem_of_getElem? (i := 7) rfl)
theorem u13_8 : Cond.methodLink RX6 275 yX5_isCutBy ∈ wsL_law := um_13 (List.mem_of_getElem? (i := 8) rfl)
theorem u13_9 : Cond.instanceMethod yX5_isCutBy ∈ wsL_law := um_13 (List.mem_of_getElem? (i := 9) rfl)
theorem u13_10 : Cond.selects RX5 yX5_isCutBy yX5_isCutBy ∈ wsL_law := um_13 (List.mem_of_getElem? (i := 10) rfl)
theorem u13_11 : Cond.code yX5_isCutBy cX5_isCutBy 3 (some .boolean) ∈ wsL_law := um_13 (List.mem_of_getElem? (i := 11) rfl)
theorem u13_12 : Cond.fieldLink RX5 21 "VisitorLoom$Session" "lastMinute" "I" ∈ wsL_law := um_13 (List.mem_of_getElem? (i := 12) rfl)
theorem u13_13 : Cond.fieldLink RX5 24 "VisitorLoom$Session" "campaign" "I" ∈ wsL_law := um_13 (List.mem_of_getElem? (i := 13) rfl)
theorem u13_14 : Cond.fieldLink RX5 27 "VisitorLoom$Event" "campaign" "I" ∈ wsL_law := um_13 (List.mem_of_getElem? (i := 14) rfl)
theorem u13_15 : Cond.methodLink RX5 15 yX1_minute ∈ wsL_law := um_13 (List.mem_of_getElem? (i := 15) rfl)
theorem u13_16 : Cond.methodLink RX6 279 yX5_begin ∈ wsL_law := um_13 (List.mem_of_getElem? (i := 16) rfl)
theorem u13_17 : Cond.instanceMethod yX5_begin ∈ wsL_law := um_13 (List.mem_of_getElem? (i := 17) rfl)
theorem u13_18 : Cond.selects RX5 yX5_begin yX5_begin ∈ wsL_law := um_13 (List.mem_of_getElem? (i := 18) rfl)
theorem u13_19 : Cond.code yX5_begin cX5_begin 2 none ∈ wsL_law := um_13 (List.mem_of_getElem? (i := 19) rfl)
theorem u13_20 : Cond.fieldLink RX5 28 "VisitorLoom$Session" "firstMinute" "I" ∈ wsL_law := um_13 (List.mem_of_getElem? (i := 20) rfl)
theorem u13_21 : Cond.fieldLink RX5 31 "VisitorLoom$Session" "size" "I" ∈ wsL_law := um_13 (List.mem_of_getElem? (i := 21) rfl)
theorem u13_22 : Cond.methodLink RX6 282 yX5_add ∈ wsL_law := um_13 (List.mem_of_getElem? (i := 22) rfl)
theorem u13_23 : Cond.instanceMethod yX5_add ∈ wsL_law := um_13 (List.mem_of_getElem? (i := 23) rfl)
theorem u14_0 : Cond.selects RX5 yX5_add yX5_add ∈ wsL_law := um_14 (List.mem_of_getElem? (i := 0) rfl)
theorem u14_1 : Cond.code yX5_add cX5_add 2 none ∈ wsL_law := um_14 (List.mem_of_getElem? (i := 1) rfl)
theorem u14_2 : Cond.methodLink RL 57 yX6_eventAt ∈ wsL_law := um_14 (List.mem_of_getElem? (i := 2) rfl)
theorem u14_3 : Cond.instanceMethod yX6_eventAt ∈ wsL_law := um_14 (List.mem_of_getElem? (i := 3) rfl)
theorem u14_4 : Cond.selects RX6 yX6_eventAt yX6_eventAt ∈ wsL_law := um_14 (List.mem_of_getElem? (i := 4) rfl)
theorem u14_5 : Cond.code yX6_eventAt cX6_eventAt 6 (some .int) ∈ wsL_law := um_14 (List.mem_of_getElem? (i := 5) rfl)
theorem u14_6 : Cond.fieldLink RX6 199 "VisitorLoom$Event" "number" "I" ∈ wsL_law := um_14 (List.mem_of_getElem? (i := 6) rfl)
theorem u14_7 : Cond.methodLink RL 61 yX6_time ∈ wsL_law := um_14 (List.mem_of_getElem? (i := 7) rfl)
theorem u14_8 : Cond.instanceMethod yX6_time ∈ wsL_law := um_14 (List.mem_of_getElem? (i := 8) rfl)
theorem u14_9 : Cond.selects RX6 yX6_time yX6_time ∈ wsL_law := um_14 (List.mem_of_getElem? (i := 9) rfl)
theorem u14_10 : Cond.code yX6_time cX6_time 3 (some .int) ∈ wsL_law := um_14 (List.mem_of_getElem? (i := 10) rfl)
theorem u14_11 : Cond.methodLink RX6 205 yX1_minute ∈ wsL_law := um_14 (List.mem_of_getElem? (i := 11) rfl)
theorem u14_12 : Cond.methodLink RL 63 yL_counts ∈ wsL_law := um_14 (List.mem_of_getElem? (i := 12) rfl)
theorem u14_13 : Cond.static yL_counts ∈ wsL_law := um_14 (List.mem_of_getElem? (i := 13) rfl)
theorem u14_14 : Cond.code yL_counts cL_counts 10 (some .boolean) ∈ wsL_law := um_14 (List.mem_of_getElem? (i := 14) rfl)
theorem u14_15 : Cond.methodLink RL 67 yX6_events ∈ wsL_law := um_14 (List.mem_of_getElem? (i := 15) rfl)
theorem u14_16 : Cond.instanceMethod yX6_events ∈ wsL_law := um_14 (List.mem_of_getElem? (i := 16) rfl)
theorem u14_17 : Cond.selects RX6 yX6_events yX6_events ∈ wsL_law := um_14 (List.mem_of_getElem? (i := 17) rfl)
theorem u14_18 : Cond.code yX6_events cX6_events 7 (some .int) ∈ wsL_law := um_14 (List.mem_of_getElem? (i := 18) rfl)
theorem u14_19 : Cond.fieldLink RX6 196 "VisitorLoom$Event" "kind" "I" ∈ wsL_law := um_14 (List.mem_of_getElem? (i := 19) rfl)
theorem u14_20 : Cond.methodLink RL 70 yX6_sessions ∈ wsL_law := um_14 (List.mem_of_getElem? (i := 20) rfl)
theorem u14_21 : Cond.instanceMethod yX6_sessions ∈ wsL_law := um_14 (List.mem_of_getElem? (i := 21) rfl)
theorem u14_22 : Cond.selects RX6 yX6_sessions yX6_sessions ∈ wsL_law := um_14 (List.mem_of_getElem? (i := 22) rfl)
theorem u14_23 : Cond.code yX6_sessions cX6_sessions 2 (some .int) ∈ wsL_law := um_14 (List.mem_of_getElem? (i := 23) rfl)
theorem u15_0 : Cond.methodLink RL 73 yX6_counted ∈ wsL_law := um_15 (List.mem_of_getElem? (i := 0) rfl)
theorem u15_1 : Cond.instanceMethod yX6_counted ∈ wsL_law := um_15 (List.mem_of_getElem? (i := 1) rfl)
theorem u15_2 : Cond.selects RX6 yX6_counted yX6_counted ∈ wsL_law := um_15 (List.mem_of_getElem? (i := 2) rfl)
theorem u15_3 : Cond.code yX6_counted cX6_counted 7 (some .int) ∈ wsL_law := um_15 (List.mem_of_getElem? (i := 3) rfl)
theorem u15_4 : Cond.methodLink RX6 232 yX6_countFor ∈ wsL_law := um_15 (List.mem_of_getElem? (i := 4) rfl)
theorem u15_5 : Cond.instanceMethod yX6_countFor ∈ wsL_law := um_15 (List.mem_of_getElem? (i := 5) rfl)
theorem u15_6 : Cond.selects RX6 yX6_countFor yX6_countFor ∈ wsL_law := um_15 (List.mem_of_getElem? (i := 6) rfl)
theorem u15_7 : Cond.code yX6_countFor cX6_countFor 8 (some .int) ∈ wsL_law := um_15 (List.mem_of_getElem? (i := 7) rfl)
theorem u15_8 : Cond.methodLink RX6 285 yX1_countsFor ∈ wsL_law := um_15 (List.mem_of_getElem? (i := 8) rfl)
theorem u15_9 : Cond.instanceMethod yX1_countsFor ∈ wsL_law := um_15 (List.mem_of_getElem? (i := 9) rfl)
theorem u15_10 : Cond.selects RX1 yX1_countsFor yX1_countsFor ∈ wsL_law := um_15 (List.mem_of_getElem? (i := 10) rfl)
theorem u15_11 : Cond.code yX1_countsFor cX1_countsFor 6 (some .boolean) ∈ wsL_law := um_15 (List.mem_of_getElem? (i := 11) rfl)
theorem u15_12 : Cond.methodLink RX1 64 yX4_hasConsent ∈ wsL_law := um_15 (List.mem_of_getElem? (i := 12) rfl)
theorem u15_13 : Cond.instanceMethod yX4_hasConsent ∈ wsL_law := um_15 (List.mem_of_getElem? (i := 13) rfl)
theorem u15_14 : Cond.selects RX4 yX4_hasConsent yX4_hasConsent ∈ wsL_law := um_15 (List.mem_of_getElem? (i := 14) rfl)
theorem u15_15 : Cond.code yX4_hasConsent cX4_hasConsent 4 (some .boolean) ∈ wsL_law := um_15 (List.mem_of_getElem? (i := 15) rfl)
theorem u15_16 : Cond.fieldLink RX4 50 "VisitorLoom$Change" "isGiven" "Z" ∈ wsL_law := um_15 (List.mem_of_getElem? (i := 16) rfl)
theorem u15_17 : Cond.methodLink RL 77 yX6_groups ∈ wsL_law := um_15 (List.mem_of_getElem? (i := 17) rfl)
theorem u15_18 : Cond.instanceMethod yX6_groups ∈ wsL_law := um_15 (List.mem_of_getElem? (i := 18) rfl)
theorem u15_19 : Cond.selects RX6 yX6_groups yX6_groups ∈ wsL_law := um_15 (List.mem_of_getElem? (i := 19) rfl)
theorem u15_20 : Cond.code yX6_groups cX6_groups 5 (some .int) ∈ wsL_law := um_15 (List.mem_of_getElem? (i := 20) rfl)
theorem u15_21 : Cond.fieldLink RX6 236 "VisitorLoom$Group" "purpose" "I" ∈ wsL_law := um_15 (List.mem_of_getElem? (i := 21) rfl)
theorem u15_22 : Cond.fieldLink RX6 239 "VisitorLoom$Group" "kind" "I" ∈ wsL_law := um_15 (List.mem_of_getElem? (i := 22) rfl)
theorem u15_23 : Cond.fieldLink RX6 240 "VisitorLoom$Group" "days" "I" ∈ wsL_law := um_15 (List.mem_of_getElem? (i := 23) rfl)
theorem u16_0 : Cond.fieldLink RX6 243 "VisitorLoom$Group" "least" "I" ∈ wsL_law := um_16 (List.mem_of_getElem? (i := 0) rfl)
theorem ug_0 : ∀ w ∈ wsL_law0_r1, goodWord w = true := List.all_eq_true.mp (by decide +kernel)
theorem ug_1 : ∀ w ∈ wsL_law0_r2, goodWord w = true := List.all_eq_true.mp (by decide +kernel)
theorem ug_2 : ∀ w ∈ wsL_law0_r3, goodWord w = true := List.all_eq_true.mp (by decide +kernel)
theorem ug_3 : ∀ w ∈ wsL_law0_r4, goodWord w = true := List.all_eq_true.mp (by decide +kernel)
theorem ug_4 : ∀ w ∈ wsL_law0_r5, goodWord w = true := List.all_eq_true.mp (by decide +kernel)
theorem ug_5 : ∀ w ∈ wsL_law0_r6, goodWord w = true := List.all_eq_true.mp (by decide +kernel)
theorem ug_6 : ∀ w ∈ wsL_law0_r7, goodWord w = true := List.all_eq_true.mp (by decide +kernel)
theorem ug_7 : ∀ w ∈ wsL_law0_r8, goodWord w = true := List.all_eq_true.mp (by decide +kernel)
theorem ug_8 : ∀ w ∈ wsL_law0_r9, goodWord w = true := List.all_eq_true.mp (by decide +kernel)
theorem ug_9 : ∀ w ∈ wsL_law0_r10, goodWord w = true := List.all_eq_true.mp (by decide +kernel)
theorem ug_10 : ∀ w ∈ wsL_law0_r11, goodWord w = true := List.all_eq_true.mp (by decide +kernel)
theorem ug_11 : ∀ w ∈ wsL_law0_r12, goodWord w = true := List.all_eq_true.mp (by decide +kernel)
theorem ug_12 : ∀ w ∈ wsL_law0_r13, goodWord w = true := List.all_eq_true.mp (by decide +kernel)
theorem ug_13 : ∀ w ∈ wsL_law0_r14, goodWord w = true := List.all_eq_true.mp (by decide +kernel)
theorem ug_14 : ∀ w ∈ wsL_law0_r15, goodWord w = true := List.all_eq_true.mp (by decide +kernel)
theorem ug_15 : ∀ w ∈ wsL_law0_r16, goodWord w = true := List.all_eq_true.mp (by decide +kernel)
theorem ug_16 : ∀ w ∈ wsL_law0_r17, goodWord w = true := List.all_eq_true.mp (by decide +kernel)
theorem ug_wsX00 : ∀ w ∈ wsX00, goodWord w = true := List.all_eq_true.mp (by decide +kernel)
theorem ug_wsX10 : ∀ w ∈ wsX10, goodWord w = true := List.all_eq_true.mp (by decide +kernel)
theorem ug_wsX20 : ∀ w ∈ wsX20, goodWord w = true := List.all_eq_true.mp (by decide +kernel)
theorem ug_wsX30 : ∀ w ∈ wsX30, goodWord w = true := List.all_eq_true.mp (by decide +kernel)
theorem ug_wsX40 : ∀ w ∈ wsX40, goodWord w = true := List.all_eq_true.mp (by decide +kernel)
theorem ug_wsX50 : ∀ w ∈ wsX50, goodWord w = true := List.all_eq_true.mp (by decide +kernel)
theorem ug_wsX60 : ∀ w ∈ wsX60, goodWord w = true := List.all_eq_true.mp (by decide +kernel)
theorem ugood1 : ∀ w ∈ wsL_law, goodWord w = true := List.forall_mem_append.mpr ⟨List.forall_mem_append.mpr ⟨List.forall_mem_append.mpr ⟨List.forall_mem_append.mpr ⟨List.forall_mem_append.mpr ⟨List.forall_mem_append.mpr ⟨List.forall_mem_append.mpr ⟨List.forall_mem_append.mpr ⟨List.forall_mem_append.mpr ⟨List.forall_mem_append.mpr ⟨List.forall_mem_append.mpr ⟨List.forall_mem_append.mpr ⟨ug_0, List.forall_mem_append.mpr ⟨ug_1, List.forall_mem_append.mpr ⟨ug_2, List.forall_mem_append.mpr ⟨ug_3, List.forall_mem_append.mpr ⟨ug_4, List.forall_mem_append.mpr ⟨ug_5, List.forall_mem_append.mpr ⟨ug_6, List.forall_mem_append.mpr ⟨ug_7, List.forall_mem_append.mpr ⟨ug_8, List.forall_mem_append.mpr ⟨ug_9, List.forall_mem_append.mpr ⟨ug_10, List.forall_mem_append.mpr ⟨ug_11, List.forall_mem_append.mpr ⟨ug_12, List.forall_mem_append.mpr ⟨ug_13, List.forall_mem_append.mpr ⟨ug_14, List.forall_mem_append.mpr ⟨ug_15, ug_16⟩⟩⟩⟩⟩⟩⟩⟩⟩⟩⟩⟩⟩⟩⟩⟩, ug_wsX60⟩, ug_wsX40⟩, ug_wsX20⟩, ug_wsX50⟩, ug_wsX30⟩, ug_wsX10⟩, ug_wsX00⟩, fun _ h => absurd h List.not_mem_nil⟩, fun _ h => (List.mem_filter.mp h).2⟩, fun _ h => (List.mem_filter.mp h).2⟩, fun _ h => (List.mem_filter.mp h).2⟩
theorem ugood : GoodIn wsL_law wsL_law := fun w h => ⟨h, good_of_word (ugood1 w h)⟩
def CB (y : MethodName) (b : ByteArray) (maxL : Nat) (rt : Option FieldType) (np : Nat) : Prop := Cond.code y b maxL rt ∈ wsL_law ∧ Cond.initialized y.cls ∈ wsL_law ∧ (y.cls ≠ "java/lang/invoke/MethodHandle" ∧ y.cls ≠ "java/lang/invoke/VarHandle" ∧ (parseMethodDescriptor y.desc).map (fun d => d.parameters.length) = some np)
def CV (y : MethodName) : Prop := Cond.instanceMethod y ∈ wsL_law ∧ Cond.selects y.cls y y ∈ wsL_law
theorem cb_X0_init : CB yX0_init cX0_init 4 none 3 := ⟨u10_10, u10_7, by decide +kernel⟩
theorem cb_X1_init : CB yX1_init cX1_init 8 none 7 := ⟨u5_6, u4_11, by decide +kernel⟩
theorem cb_X1_minute : CB yX1_minute cX1_minute 1 (some .int) 0 := ⟨u6_5, u4_11, by decide +kernel⟩
theorem cv_X1_minute : CV yX1_minute := ⟨u6_3, u6_4⟩
theorem cb_X1_isBefore : CB yX1_isBefore cX1_isBefore 4 (some .boolean) 1 := ⟨u6_1, u4_11, by decide +kernel⟩
theorem cv_X1_isBefore : CV yX1_isBefore := ⟨u5_23, u6_0⟩
theorem cb_X1_linkedAccount : CB yX1_linkedAccount cX1_linkedAccount 1 (some (.object "VisitorLoom$Node")) 0 := ⟨u6_19, u4_11, by decide +kernel⟩
theorem cv_X1_linkedAccount : CV yX1_linkedAccount := ⟨u6_17, u6_18⟩
theorem cb_X1_owner : CB yX1_owner cX1_owner 1 (some (.object "VisitorLoom$Node")) 0 := ⟨u11_9, u4_11, by decide +kernel⟩
theorem cv_X1_owner : CV yX1_owner := ⟨u11_7, u11_8⟩
theorem cb_X1_isOf : CB yX1_isOf cX1_isOf 2 (some .boolean) 1 := ⟨u11_5, u4_11, by decide +kernel⟩
theorem cv_X1_isOf : CV yX1_isOf := ⟨u11_3, u11_4⟩
theorem cb_X1_countsFor : CB yX1_countsFor cX1_countsFor 6 (some .boolean) 4 := ⟨u15_11, u4_11, by decide +kernel⟩
theorem cv_X1_countsFor : CV yX1_countsFor := ⟨u15_9, u15_10⟩
theorem cb_X2_init : CB yX2_init cX2_init 1 none 0 := ⟨u1_13, u0_21, by decide +kernel⟩
theorem cb_X2_put : CB yX2_put cX2_put 4 none 1 := ⟨u5_18, u0_21, by decide +kernel⟩
theorem cv_X2_put : CV yX2_put := ⟨u5_16, u5_17⟩
theorem cb_X2_putEach : CB yX2_putEach cX2_putEach 4 none 1 := ⟨u8_12, u0_21, by decide +kernel⟩
theorem cv_X2_putEach : CV yX2_putEach := ⟨u8_10, u8_11⟩
theorem cb_X2_takeMarked : CB yX2_takeMarked cX2_takeMarked 5 (some (.object "VisitorLoom$Event")) 0 := ⟨u8_7, u0_21, by decide +kernel⟩
theorem cv_X2_takeMarked : CV yX2_takeMarked := ⟨u8_5, u8_6⟩
theorem cb_X3_init : CB yX3_init cX3_init 6 none 5 := ⟨u2_21, u2_5, by decide +kernel⟩
theorem cb_X4_init : CB yX4_init cX4_init 2 none 1 := ⟨u1_7, u0_16, by decide +kernel⟩
theorem cb_X4_lowest : CB yX4_lowest cX4_lowest 1 (some (.object "VisitorLoom$Node")) 0 := ⟨u7_9, u0_16, by decide +kernel⟩
theorem cv_X4_lowest : CV yX4_lowest := ⟨u7_7, u7_8⟩
theorem cb_X4_standAlone : CB yX4_standAlone cX4_standAlone 1 none 0 := ⟨u9_2, u0_16, by decide +kernel⟩
theorem cv_X4_standAlone : CV yX4_standAlone := ⟨u9_0, u9_1⟩
theorem cb_X4_joinTo : CB yX4_joinTo cX4_joinTo 2 none 1 := ⟨u7_19, u0_16, by decide +kernel⟩
theorem cv_X4_joinTo : CV yX4_joinTo := ⟨u7_17, u7_18⟩
theorem cb_X4_mayLink : CB yX4_mayLink cX4_mayLink 2 (some .boolean) 1 := ⟨u7_0, u0_16, by decide +kernel⟩
theorem cv_X4_mayLink : CV yX4_mayLink := ⟨u6_22, u6_23⟩
theorem cb_X4_setMayLink : CB yX4_setMayLink cX4_setMayLink 3 none 2 := ⟨u9_11, u0_16, by decide +kernel⟩
theorem cv_X4_setMayLink : CV yX4_setMayLink := ⟨u9_9, u9_10⟩
theorem cb_X4_bit : CB yX4_bit cX4_bit 1 (some .int) 0 := ⟨u7_5, u0_16, by decide +kernel⟩
theorem cv_X4_bit : CV yX4_bit := ⟨u7_3, u7_4⟩
theorem cb_X4_changesFor : CB yX4_changesFor cX4_changesFor 4 (some .int) 1 := ⟨u9_19, u0_16, by decide +kernel⟩
theorem cv_X4_changesFor : CV yX4_changesFor := ⟨u9_17, u9_18⟩
theorem cb_X4_addChange : CB yX4_addChange cX4_addChange 7 none 3 := ⟨u10_4, u0_16, by decide +kernel⟩
theorem cv_X4_addChange : CV yX4_addChange := ⟨u10_2, u10_3⟩
theorem cb_X4_hasConsent : CB yX4_hasConsent cX4_hasConsent 4 (some .boolean) 2 := ⟨u15_15, u0_16, by decide +kernel⟩
theorem cv_X4_hasConsent : CV yX4_hasConsent := ⟨u15_13, u15_14⟩
theorem cb_X4_clearChanges : CB yX4_clearChanges cX4_clearChanges 2 none 0 := ⟨u11_14, u0_16, by decide +kernel⟩
theorem cv_X4_clearChanges : CV yX4_clearChanges := ⟨u11_12, u11_13⟩
theorem cb_X4_latestChange : CB yX4_latestChange cX4_latestChange 2 (some (.object "VisitorLoom$Change")) 1 := ⟨u10_0, u0_16, by decide +kernel⟩
theorem cv_X4_latestChange : CV yX4_latestChange := ⟨u9_22, u9_23⟩
theorem cb_X5_init : CB yX5_init cX5_init 1 none 0 := ⟨u1_16, u1_1, by decide +kernel⟩
theorem cb_X5_restart : CB yX5_restart cX5_restart 1 none 0 := ⟨u13_6, u1_1, by decide +kernel⟩
theorem cv_X5_restart : CV yX5_restart := ⟨u13_4, u13_5⟩
theorem cb_X5_isCutBy : CB yX5_isCutBy cX5_isCutBy 3 (some .boolean) 1 := ⟨u13_11, u1_1, by decide +kernel⟩
theorem cv_X5_isCutBy : CV yX5_isCutBy := ⟨u13_9, u13_10⟩
theorem cb_X5_begin : CB yX5_begin cX5_begin 2 none 1 := ⟨u13_19, u1_1, by decide +kernel⟩
theorem cv_X5_begin : CV yX5_begin := ⟨u13_17, u13_18⟩
theorem cb_X5_add : CB yX5_add cX5_add 2 none 1 := ⟨u14_1, u1_1, by decide +kernel⟩
theorem cv_X5_add : CV yX5_add := ⟨u13_23, u14_0⟩
theorem cb_X6_init : CB yX6_init cX6_init 2 none 0 := ⟨u0_9, u0_2, by decide +kernel⟩
theorem cb_X6_event : CB yX6_event cX6_event 10 (some .boolean) 6 := ⟨u4_7, u0_2, by decide +kernel⟩
theorem cv_X6_event : CV yX6_event := ⟨u4_5, u4_6⟩
theorem cb_X6_skew : CB yX6_skew cX6_skew 6 (some .int) 2 := ⟨u7_23, u0_2, by decide +kernel⟩
theorem cv_X6_skew : CV yX6_skew := ⟨u7_21, u7_22⟩
theorem cb_X6_share : CB yX6_share cX6_share 5 (some .boolean) 2 := ⟨u8_17, u0_2, by decide +kernel⟩
theorem cv_X6_share : CV yX6_share := ⟨u8_15, u8_16⟩
theorem cb_X6_link : CB yX6_link cX6_link 7 (some .boolean) 3 := ⟨u9_6, u0_2, by decide +kernel⟩
theorem cv_X6_link : CV yX6_link := ⟨u9_4, u9_5⟩
theorem cb_X6_consent : CB yX6_consent cX6_consent 7 (some .int) 4 := ⟨u9_15, u0_2, by decide +kernel⟩
theorem cv_X6_consent : CV yX6_consent := ⟨u9_13, u9_14⟩
theorem cb_X6_group : CB yX6_group cX6_group 6 (some .int) 4 := ⟨u1_21, u0_2, by decide +kernel⟩
theorem cv_X6_group : CV yX6_group := ⟨u1_19, u1_20⟩
theorem cb_X6_forget : CB yX6_forget cX6_forget 8 (some .int) 1 := ⟨u10_21, u0_2, by decide +kernel⟩
theorem cv_X6_forget : CV yX6_forget := ⟨u10_19, u10_20⟩
theorem cb_X6_pass : CB yX6_pass cX6_pass 2 (some .int) 1 := ⟨u11_18, u0_2, by decide +kernel⟩
theorem cv_X6_pass : CV yX6_pass := ⟨u11_16, u11_17⟩
theorem cb_X6_profile : CB yX6_profile cX6_profile 2 (some .int) 1 := ⟨u12_1, u0_2, by decide +kernel⟩
theorem cv_X6_profile : CV yX6_profile := ⟨u11_23, u12_0⟩
theorem cb_X6_profileAnew : CB yX6_profileAnew cX6_profileAnew 3 (some .int) 1 := ⟨u12_5, u0_2, by decide +kernel⟩
theorem cv_X6_profileAnew : CV yX6_profileAnew := ⟨u12_3, u12_4⟩
theorem cb_X6_events : CB yX6_events cX6_events 7 (some .int) 2 := ⟨u14_18, u0_2, by decide +kernel⟩
theorem cv_X6_events : CV yX6_events := ⟨u14_16, u14_17⟩
theorem cb_X6_eventAt : CB yX6_eventAt cX6_eventAt 6 (some .int) 2 := ⟨u14_5, u0_2, by decide +kernel⟩
theorem cv_X6_eventAt : CV yX6_eventAt := ⟨u14_3, u14_4⟩
theorem cb_X6_time : CB yX6_time cX6_time 3 (some .int) 1 := ⟨u14_10, u0_2, by decide +kernel⟩
theorem cv_X6_time : CV yX6_time := ⟨u14_8, u14_9⟩
theorem cb_X6_sessions : CB yX6_sessions cX6_sessions 2 (some .int) 1 := ⟨u14_23, u0_2, by decide +kernel⟩
theorem cv_X6_sessions : CV yX6_sessions := ⟨u14_21, u14_22⟩
theorem cb_X6_session : CB yX6_session cX6_session 5 (some .int) 3 := ⟨u12_15, u0_2, by decide +kernel⟩
theorem cv_X6_session : CV yX6_session := ⟨u12_13, u12_14⟩
theorem cb_X6_counted : CB yX6_counted cX6_counted 7 (some .int) 5 := ⟨u15_3, u0_2, by decide +kernel⟩
theorem cv_X6_counted : CV yX6_counted := ⟨u15_1, u15_2⟩
theorem cb_X6_groups : CB yX6_groups cX6_groups 5 (some .int) 1 := ⟨u15_20, u0_2, by decide +kernel⟩
theorem cv_X6_groups : CV yX6_groups := ⟨u15_18, u15_19⟩
theorem cb_X6_nodeAt : CB yX6_nodeAt cX6_nodeAt 2 (some (.object "VisitorLoom$Node")) 1 := ⟨u4_19, u0_2, by decide +kernel⟩
theorem cv_X6_nodeAt : CV yX6_nodeAt := ⟨u4_17, u4_18⟩
theorem cb_X6_accountAt : CB yX6_accountAt cX6_accountAt 2 (some (.object "VisitorLoom$Node")) 1 := ⟨u4_23, u0_2, by decide +kernel⟩
theorem cv_X6_accountAt : CV yX6_accountAt := ⟨u4_21, u4_22⟩
theorem cb_X6_deviceAt : CB yX6_deviceAt cX6_deviceAt 2 (some (.object "VisitorLoom$Node")) 1 := ⟨u4_15, u0_2, by decide +kernel⟩
theorem cv_X6_deviceAt : CV yX6_deviceAt := ⟨u4_13, u4_14⟩
theorem cb_X6_neededNode : CB yX6_neededNode cX6_neededNode 3 (some (.object "VisitorLoom$Node")) 1 := ⟨u11_1, u0_2, by decide +kernel⟩
theorem cv_X6_neededNode : CV yX6_neededNode := ⟨u10_23, u11_0⟩
theorem cb_X6_isKind : CB yX6_isKind cX6_isKind 1 (some .boolean) 1 := ⟨u2_15, u0_2, by decide +kernel⟩
theorem cb_X6_isPurpose : CB yX6_isPurpose cX6_isPurpose 1 (some .boolean) 1 := ⟨u2_12, u0_2, by decide +kernel⟩
theorem cb_X6_isMinute : CB yX6_isMinute cX6_isMinute 1 (some .boolean) 1 := ⟨u5_2, u0_2, by decide +kernel⟩
theorem cb_X6_areDays : CB yX6_areDays cX6_areDays 1 (some .boolean) 1 := ⟨u2_18, u0_2, by decide +kernel⟩
theorem cb_X6_findProfiles : CB yX6_findProfiles cX6_findProfiles 5 none 0 := ⟨u8_22, u0_2, by decide +kernel⟩
theorem cv_X6_findProfiles : CV yX6_findProfiles := ⟨u8_20, u8_21⟩
theorem cb_X6_joinBy : CB yX6_joinBy cX6_joinBy 3 none 1 := ⟨u6_14, u0_2, by decide +kernel⟩
theorem cv_X6_joinBy : CV yX6_joinBy := ⟨u6_12, u6_13⟩
theorem cb_X6_join : CB yX6_join cX6_join 9 none 2 := ⟨u7_14, u0_2, by decide +kernel⟩
theorem cv_X6_join : CV yX6_join := ⟨u7_12, u7_13⟩
theorem cb_X6_cutUpTo : CB yX6_cutUpTo cX6_cutUpTo 5 none 2 := ⟨u13_2, u0_2, by decide +kernel⟩
theorem cv_X6_cutUpTo : CV yX6_cutUpTo := ⟨u13_0, u13_1⟩
theorem cb_X6_countFor : CB yX6_countFor cX6_countFor 8 (some .int) 5 := ⟨u15_7, u0_2, by decide +kernel⟩
theorem cv_X6_countFor : CV yX6_countFor := ⟨u15_5, u15_6⟩
theorem cb_J9_max_7cf53 : CB yJ9_max_7cf53 cJ9_max_7cf53 2 (some .int) 2 := ⟨u6_10, u6_9, by decide +kernel⟩
theorem cb_L_cell : CB yL_cell cL_cell 2 (some .int) 2 := ⟨u3_7, u3_6, by decide +kernel⟩
theorem cb_L_low : CB yL_low cL_low 2 (some .int) 2 := ⟨u3_12, u3_6, by decide +kernel⟩
theorem cb_L_part : CB yL_part cL_part 3 (some .int) 3 := ⟨u3_22, u3_6, by decide +kernel⟩
theorem cb_L_isGone : CB yL_isGone cL_isGone 2 (some .boolean) 2 := ⟨u3_19, u3_6, by decide +kernel⟩
theorem cb_L_time : CB yL_time cL_time 4 (some .int) 3 := ⟨u12_11, u3_6, by decide +kernel⟩
theorem cb_L_finds : CB yL_finds cL_finds 11 none 4 := ⟨u3_16, u3_6, by decide +kernel⟩
theorem cb_L_belongs : CB yL_belongs cL_belongs 7 (some .boolean) 5 := ⟨u10_17, u3_6, by decide +kernel⟩
theorem cb_L_isAhead : CB yL_isAhead cL_isAhead 4 (some .boolean) 4 := ⟨u12_8, u3_6, by decide +kernel⟩
theorem cb_L_counts : CB yL_counts cL_counts 10 (some .boolean) 5 := ⟨u14_14, u3_6, by decide +kernel⟩
theorem cb_L_same : CB yL_same cL_same 20 (some .boolean) 9 := ⟨u11_21, u3_6, by decide +kernel⟩

theorem um_0 {w : Cond} (h : w ∈ wsL_law0_r1) : w ∈ wsL_law := List.mem_append_left _ (List.mem_append_left _ (List.mem_append_left _ (List.mem_append_left _ (List.mem_append_left _ (List.mem_append_left _ (List.mem_append_left _ (List.mem_append_left _ (List.mem_append_left _ (List.mem_append_left _ (List.mem_append_left _ (List.mem_append_left _ (List.mem_append_left _ h))))))))))))
theorem um_1 {w : Cond} (h : w ∈ wsL_law0_r2) : w ∈ wsL_law := List.mem_append_left _ (List.mem_append_left _ (List.mem_append_left _ (List.mem_append_left _ (List.mem_append_left _ (List.mem_append_left _ (List.mem_append_left _ (List.mem_append_left _ (List.mem_append_left _ (List.mem_append_left _ (List.mem_append_left _ (List.mem_append_left _ (List.mem_append_right _ (List.mem_append_left _ h)))))))))))))
theorem um_2 {w : Cond} (h : w ∈ wsL_law0_r3) : w ∈ wsL_law := List.mem_append_left _ (List.mem_append_left _ (List.mem_append_left _ (List.mem_append_left _ (List.mem_append_left _ (List.mem_append_left _ (List.mem_append_left _ (List.mem_append_left _ (List.mem_append_left _ (List.mem_append_left _ (List.mem_append_left _ (List.mem_append_left _ (List.mem_append_right _ (List.mem_append_right _ (List.mem_append_left _ h))))))))))))))
theorem um_3 {w : Cond} (h : w ∈ wsL_law0_r4) : w ∈ wsL_law := List.mem_append_left _ (List.mem_append_left _ (List.mem_append_left _ (List.mem_append_left _ (List.mem_append_left _ (List.mem_append_left _ (List.mem_append_left _ (List.mem_append_left _ (List.mem_append_left _ (List.mem_append_left _ (List.mem_append_left _ (List.mem_append_left _ (List.mem_append_right _ (List.mem_append_right _ (List.mem_append_right _ (List.mem_append_left _ h)))))))))))))))
theorem um_4 {w : Cond} (h : w ∈ wsL_law0_r5) : w ∈ wsL_law := List.mem_append_left _ (List.mem_append_left _ (List.mem_append_left _ (List.mem_append_left _ (List.mem_append_left _ (List.mem_append_left _ (List.mem_append_left _ (List.mem_append_left _ (List.mem_append_left _ (List.mem_append_left _ (List.mem_append_left _ (List.mem_append_left _ (List.mem_append_right _ (List.mem_append_right _ (List.mem_append_right _ (List.mem_append_right _ (List.mem_append_left _ h))))))))))))))))
theorem um_5 {w : Cond} (h : w ∈ wsL_law0_r6) : w ∈ wsL_law := List.mem_append_left _ (List.mem_append_left _ (List.mem_append_left _ (List.mem_append_left _ (List.mem_append_left _ (List.mem_append_left _ (List.mem_append_left _ (List.mem_append_left _ (List.mem_append_left _ (List.mem_append_left _ (List.mem_append_left _ (List.mem_append_left _ (List.mem_append_right _ (List.mem_append_right _ (List.mem_append_right _ (List.mem_append_right _ (List.mem_append_right _ (List.mem_append_left _ h)))))))))))))))))
theorem um_6 {w : Cond} (h : w ∈ wsL_law0_r7) : w ∈ wsL_law := List.mem_append_left _ (List.mem_append_left _ (List.mem_append_left _ (List.mem_append_left _ (List.mem_append_left _ (List.mem_append_left _ (List.mem_append_left _ (List.mem_append_left _ (List.mem_append_left _ (List.mem_append_left _ (List.mem_append_left _ (List.mem_append_left _ (List.mem_append_right _ (List.mem_append_right _ (List.mem_append_right _ (List.mem_append_right _ (List.mem_append_right _ (List.mem_append_right _ (List.mem_append_left _ h))))))))))))))))))
theorem um_7 {w : Cond} (h : w ∈ wsL_law0_r8) : w ∈ wsL_law := List.mem_append_left _ (List.mem_append_left _ (List.mem_append_left _ (List.mem_append_left _ (List.mem_append_left _ (List.mem_append_left _ (List.mem_append_left _ (List.mem_append_left _ (List.mem_append_left _ (List.mem_append_left _ (List.mem_append_left _ (List.mem_append_left _ (List.mem_append_right _ (List.mem_append_right _ (List.mem_append_right _ (List.mem_append_right _ (List.mem_append_right _ (List.mem_append_right _ (List.mem_append_right _ (List.mem_append_left _ h)))))))))))))))))))
theorem um_8 {w : Cond} (h : w ∈ wsL_law0_r9) : w ∈ wsL_law := List.mem_append_left _ (List.mem_append_left _ (List.mem_append_left _ (List.mem_append_left _ (List.mem_append_left _ (List.mem_append_left _ (List.mem_append_left _ (List.mem_append_left _ (List.mem_append_left _ (List.mem_append_left _ (List.mem_append_left _ (List.mem_append_left _ (List.mem_append_right _ (List.mem_append_right _ (List.mem_append_right _ (List.mem_append_right _ (List.mem_append_right _ (List.mem_append_right _ (List.mem_append_right _ (List.mem_append_right _ (List.mem_append_left _ h))))))))))))))))))))
theorem um_9 {w : Cond} (h : w ∈ wsL_law0_r10) : w ∈ wsL_law := List.mem_append_left _ (List.mem_append_left _ (List.mem_append_left _ (List.mem_append_left _ (List.mem_append_left _ (List.mem_append_left _ (List.mem_append_left _ (List.mem_append_left _ (List.mem_append_left _ (List.mem_append_left _ (List.mem_append_left _ (List.mem_append_left _ (List.mem_append_right _ (List.mem_append_right _ (List.mem_append_right _ (List.mem_append_right _ (List.mem_append_right _ (List.mem_append_right _ (List.mem_append_right _ (List.mem_append_right _ (List.mem_append_right _ (List.mem_append_left _ h)))))))))))))))))))))
theorem um_10 {w : Cond} (h : w ∈ wsL_law0_r11) : w ∈ wsL_law := List.mem_append_left _ (List.mem_append_left _ (List.mem_append_left _ (List.mem_append_left _ (List.mem_append_left _ (List.mem_append_left _ (List.mem_append_left _ (List.mem_append_left _ (List.mem_append_left _ (List.mem_append_left _ (List.mem_append_left _ (List.mem_append_left _ (List.mem_append_right _ (List.mem_append_right _ (List.mem_append_right _ (List.mem_append_right _ (List.mem_append_right _ (List.mem_append_right _ (List.mem_append_right _ (List.mem_append_right _ (List.mem_append_right _ (List.mem_append_right _ (List.mem_append_left _ h))))))))))))))))))))))
theorem um_11 {w : Cond} (h : w ∈ wsL_law0_r12) : w ∈ wsL_law := List.mem_append_left _ (List.mem_append_left _ (List.mem_append_left _ (List.mem_append_left _ (List.mem_append_left _ (List.mem_append_left _ (List.mem_append_left _ (List.mem_append_left _ (List.mem_append_left _ (List.mem_append_left _ (List.mem_append_left _ (List.mem_append_left _ (List.mem_append_right _ (List.mem_append_right _ (List.mem_append_right _ (List.mem_append_right _ (List.mem_append_right _ (List.mem_append_right _ (List.mem_append_right _ (List.mem_append_right _ (List.mem_append_right _ (List.mem_append_right _ (List.mem_append_right _ (List.mem_append_left _ h)))))))))))))))))))))))
theorem um_12 {w : Cond} (h : w ∈ wsL_law0_r13) : w ∈ wsL_law := List.mem_append_left _ (List.mem_append_left _ (List.mem_append_left _ (List.mem_append_left _ (List.mem_append_left _ (List.mem_append_left _ (List.mem_append_left _ (List.mem_append_left _ (List.mem_append_left _ (List.mem_append_left _ (List.mem_append_left _ (List.mem_append_left _ (List.mem_append_right _ (List.mem_append_right _ (List.mem_append_right _ (List.mem_append_right _ (List.mem_append_right _ (List.mem_append_right _ (List.mem_append_right _ (List.mem_append_right _ (List.mem_append_right _ (List.mem_append_right _ (List.mem_append_right _ (List.mem_append_right _ (List.mem_append_left _ h))))))))))))))))))))))))
theorem um_13 {w : Cond} (h : w ∈ wsL_law0_r14) : w ∈ wsL_law := List.mem_append_left _ (List.mem_append_left _ (List.mem_append_left _ (List.mem_append_left _ (List.mem_append_left _ (List.mem_append_left _ (List.mem_append_left _ (List.mem_append_left _ (List.mem_append_left _ (List.mem_append_left _ (List.mem_append_left _ (List.mem_append_left _ (List.mem_append_right _ (List.mem_append_right _ (List.mem_append_right _ (List.mem_append_right _ (List.mem_append_right _ (List.mem_append_right _ (List.mem_append_right _ (List.mem_append_right _ (List.mem_append_right _ (List.mem_append_right _ (List.mem_append_right _ (List.mem_append_right _ (List.mem_append_right _ (List.mem_append_left _ h)))))))))))))))))))))))))
theorem um_14 {w : Cond} (h : w ∈ wsL_law0_r15) : w ∈ wsL_law := List.mem_append_left _ (List.mem_append_left _ (List.mem_append_left _ (List.mem_append_left _ (List.mem_append_left _ (List.mem_append_left _ (List.mem_append_left _ (List.mem_append_left _ (List.mem_append_left _ (List.mem_append_left _ (List.mem_append_left _ (List.mem_append_left _ (List.mem_append_right _ (List.mem_append_right _ (List.mem_append_right _ (List.mem_append_right _ (List.mem_append_right _ (List.mem_append_right _ (List.mem_append_right _ (List.mem_append_right _ (List.mem_append_right _ (List.mem_append_right _ (List.mem_append_right _ (List.mem_append_right _ (List.mem_append_right _ (List.mem_append_right _ (List.mem_append_left _ h))))))))))))))))))))))))))
theorem um_15 {w : Cond} (h : w ∈ wsL_law0_r16) : w ∈ wsL_law := List.mem_append_left _ (List.mem_append_left _ (List.mem_append_left _ (List.mem_append_left _ (List.mem_append_left _ (List.mem_append_left _ (List.mem_append_left _ (List.mem_append_left _ (List.mem_append_left _ (List.mem_append_left _ (List.mem_append_left _ (List.mem_append_left _ (List.mem_append_right _ (List.mem_append_right _ (List.mem_append_right _ (List.mem_append_right _ (List.mem_append_right _ (List.mem_append_right _ (List.mem_append_right _ (List.mem_append_right _ (List.mem_append_right _ (List.mem_append_right _ (List.mem_append_right _ (List.mem_append_right _ (List.mem_append_right _ (List.mem_append_right _ (List.mem_append_right _ (List.mem_append_left _ h)))))))))))))))))))))))))))
theorem um_16 {w : Cond} (h : w ∈ wsL_law0_r17) : w ∈ wsL_law := List.mem_append_left _ (List.mem_append_left _ (List.mem_append_left _ (List.mem_append_left _ (List.mem_append_left _ (List.mem_append_left _ (List.mem_append_left _ (List.mem_append_left _ (List.mem_append_left _ (List.mem_append_left _ (List.mem_append_left _ (List.mem_append_left _ (List.mem_append_right _ (List.mem_append_right _ (List.mem_append_right _ (List.mem_append_right _ (List.mem_append_right _ (List.mem_append_right _ (List.mem_append_right _ (List.mem_append_right _ (List.mem_append_right _ (List.mem_append_right _ (List.mem_append_right _ (List.mem_append_right _ (List.mem_append_right _ (List.mem_append_right _ (List.mem_append_right _ (List.mem_append_right _ (List.mem_append_left _ h))))))))))))))))))))))))))))
theorem um_17 {w : Cond} (h : w ∈ wsL_law0_r18) : w ∈ wsL_law := List.mem_append_left _ (List.mem_append_left _ (List.mem_append_left _ (List.mem_append_left _ (List.mem_append_left _ (List.mem_append_left _ (List.mem_append_left _ (List.mem_append_left _ (List.mem_append_left _ (List.mem_append_left _ (List.mem_append_left _ (List.mem_append_left _ (List.mem_append_right _ (List.mem_append_right _ (List.mem_append_right _ (List.mem_append_right _ (List.mem_append_right _ (List.mem_append_right _ (List.mem_append_right _ (List.mem_append_right _ (List.mem_append_right _ (List.mem_append_right _ (List.mem_append_right _ (List.mem_append_right _ (List.mem_append_right _ (List.mem_append_right _ (List.mem_append_right _ (List.mem_append_right _ (List.mem_append_right _ (List.mem_append_left _ h)))))))))))))))))))))))))))))
theorem um_18 {w : Cond} (h : w ∈ wsL_law0_r19) : w ∈ wsL_law := List.mem_append_left _ (List.mem_append_left _ (List.mem_append_left _ (List.mem_append_left _ (List.mem_append_left _ (List.mem_append_left _ (List.mem_append_left _ (List.mem_append_left _ (List.mem_append_left _ (List.mem_append_left _ (List.mem_append_left _ (List.mem_append_left _ (List.mem_append_right _ (List.mem_append_right _ (List.mem_append_right _ (List.mem_append_right _ (List.mem_append_right _ (List.mem_append_right _ (List.mem_append_right _ (List.mem_append_right _ (List.mem_append_right _ (List.mem_append_right _ (List.mem_append_right _ (List.mem_append_right _ (List.mem_append_right _ (List.mem_append_right _ (List.mem_append_right _ (List.mem_append_right _ (List.mem_append_right _ (List.mem_append_right _ (List.mem_append_left _ h))))))))))))))))))))))))))))))
theorem um_19 {w : Cond} (h : w ∈ wsL_law0_r20) : w ∈ wsL_law := List.mem_append_left _ (List.mem_append_left _ (List.mem_append_left _ (List.mem_append_left _ (List.mem_append_left _ (List.mem_append_left _ (List.mem_append_left _ (List.mem_append_left _ (List.mem_append_left _ (List.mem_append_left _ (List.mem_append_left _ (List.mem_append_left _ (List.mem_append_right _ (List.mem_append_right _ (List.mem_append_right _ (List.mem_append_right _ (List.mem_append_right _ (List.mem_append_right _ (List.mem_append_right _ (List.mem_append_right _ (List.mem_append_right _ (List.mem_append_right _ (List.mem_append_right _ (List.mem_append_right _ (List.mem_append_right _ (List.mem_append_right _ (List.mem_append_right _ (List.mem_append_right _ (List.mem_append_right _ (List.mem_append_right _ (List.mem_append_right _ (List.mem_append_left _ h)))))))))))))))))))))))))))))))
theorem um_20 {w : Cond} (h : w ∈ wsL_law0_r21) : w ∈ wsL_law := List.mem_append_left _ (List.mem_append_left _ (List.mem_append_left _ (List.mem_append_left _ (List.mem_append_left _ (List.mem_append_left _ (List.mem_append_left _ (List.mem_append_left _ (List.mem_append_left _ (List.mem_append_left _ (List.mem_append_left _ (List.mem_append_left _ (List.mem_append_right _ (List.mem_append_right _ (List.mem_append_right _ (List.mem_append_right _ (List.mem_append_right _ (List.mem_append_right _ (List.mem_append_right _ (List.mem_append_right _ (List.mem_append_right _ (List.mem_append_right _ (List.mem_append_right _ (List.mem_append_right _ (List.mem_append_right _ (List.mem_append_right _ (List.mem_append_right _ (List.mem_append_right _ (List.mem_append_right _ (List.mem_append_right _ (List.mem_append_right _ (List.mem_append_right _ (List.mem_append_left _ h))))))))))))))))))))))))))))))))
theorem um_21 {w : Cond} (h : w ∈ wsL_law0_r22) : w ∈ wsL_law := List.mem_append_left _ (List.mem_append_left _ (List.mem_append_left _ (List.mem_append_left _ (List.mem_append_left _ (List.mem_append_left _ (List.mem_append_left _ (List.mem_append_left _ (List.mem_append_left _ (List.mem_append_left _ (List.mem_append_left _ (List.mem_append_left _ (List.mem_append_right _ (List.mem_append_right _ (List.mem_append_right _ (List.mem_append_right _ (List.mem_append_right _ (List.mem_append_right _ (List.mem_append_right _ (List.mem_append_right _ (List.mem_append_right _ (List.mem_append_right _ (List.mem_append_right _ (List.mem_append_right _ (List.mem_append_right _ (List.mem_append_right _ (List.mem_append_right _ (List.mem_append_right _ (List.mem_append_right _ (List.mem_append_right _ (List.mem_append_right _ (List.mem_append_right _ (List.mem_append_right _ (List.mem_append_left _ h)))))))))))))))))))))))))))))))))
theorem um_22 {w : Cond} (h : w ∈ wsL_law0_r23) : w ∈ wsL_law := List.mem_append_left _ (List.mem_append_left _ (List.mem_append_left _ (List.mem_append_left _ (List.mem_append_left _ (List.mem_append_left _ (List.mem_append_left _ (List.mem_append_left _ (List.mem_append_left _ (List.mem_append_left _ (List.mem_append_left _ (List.mem_append_left _ (List.mem_append_right _ (List.mem_append_right _ (List.mem_append_right _ (List.mem_append_right _ (List.mem_append_right _ (List.mem_append_right _ (List.mem_append_right _ (List.mem_append_right _ (List.mem_append_right _ (List.mem_append_right _ (List.mem_append_right _ (List.mem_append_right _ (List.mem_append_right _ (List.mem_append_right _ (List.mem_append_right _ (List.mem_append_right _ (List.mem_append_right _ (List.mem_append_right _ (List.mem_append_right _ (List.mem_append_right _ (List.mem_append_right _ (List.mem_append_right _ (List.mem_append_left _ h))))))))))))))))))))))))))))))))))
theorem um_23 {w : Cond} (h : w ∈ wsL_law0_r24) : w ∈ wsL_law := List.mem_append_left _ (List.mem_append_left _ (List.mem_append_left _ (List.mem_append_left _ (List.mem_append_left _ (List.mem_append_left _ (List.mem_append_left _ (List.mem_append_left _ (List.mem_append_left _ (List.mem_append_left _ (List.mem_append_left _ (List.mem_append_left _ (List.mem_append_right _ (List.mem_append_right _ (List.mem_append_right _ (List.mem_append_right _ (List.mem_append_right _ (List.mem_append_right _ (List.mem_append_right _ (List.mem_append_right _ (List.mem_append_right _ (List.mem_append_right _ (List.mem_append_right _ (List.mem_append_right _ (List.mem_append_right _ (List.mem_append_right _ (List.mem_append_right _ (List.mem_append_right _ (List.mem_append_right _ (List.mem_append_right _ (List.mem_append_right _ (List.mem_append_right _ (List.mem_append_right _ (List.mem_append_right _ (List.mem_append_right _ (List.mem_append_left _ h)))))))))))))))))))))))))))))))))))
theorem um_24 {w : Cond} (h : w ∈ wsL_law0_r25) : w ∈ wsL_law := List.mem_append_left _ (List.mem_append_left _ (List.mem_append_left _ (List.mem_append_left _ (List.mem_append_left _ (List.mem_append_left _ (List.mem_append_left _ (List.mem_append_left _ (List.mem_append_left _ (List.mem_append_left _ (List.mem_append_left _ (List.mem_append_left _ (List.mem_append_right _ (List.mem_append_right _ (List.mem_append_right _ (List.mem_append_right _ (List.mem_append_right _ (List.mem_append_right _ (List.mem_append_right _ (List.mem_append_right _ (List.mem_append_right _ (List.mem_append_right _ (List.mem_append_right _ (List.mem_append_right _ (List.mem_append_right _ (List.mem_append_right _ (List.mem_append_right _ (List.mem_append_right _ (List.mem_append_right _ (List.mem_append_right _ (List.mem_append_right _ (List.mem_append_right _ (List.mem_append_right _ (List.mem_append_right _ (List.mem_append_right _ (List.mem_append_right _ (List.mem_append_left _ h))))))))))))))))))))))))))))))))))))
theorem um_25 {w : Cond} (h : w ∈ wsL_law0_r26) : w ∈ wsL_law := List.mem_append_left _ (List.mem_append_left _ (List.mem_append_left _ (List.mem_append_left _ (List.mem_append_left _ (List.mem_append_left _ (List.mem_append_left _ (List.mem_append_left _ (List.mem_append_left _ (List.mem_append_left _ (List.mem_append_left _ (List.mem_append_left _ (List.mem_append_right _ (List.mem_append_right _ (List.mem_append_right _ (List.mem_append_right _ (List.mem_append_right _ (List.mem_append_right _ (List.mem_append_right _ (List.mem_append_right _ (List.mem_append_right _ (List.mem_append_right _ (List.mem_append_right _ (List.mem_append_right _ (List.mem_append_right _ (List.mem_append_right _ (List.mem_append_right _ (List.mem_append_right _ (List.mem_append_right _ (List.mem_append_right _ (List.mem_append_right _ (List.mem_append_right _ (List.mem_append_right _ (List.mem_append_right _ (List.mem_append_right _ (List.mem_append_right _ (List.mem_append_right _ (h)))))))))))))))))))))))))))))))))))))
theorem u0_0 : Cond.classLink RL 8 RX6 ∈ wsL_law := um_0 (List.mem_of_getElem? (i := 0) rfl)
theorem u0_1 : Cond.instantiable RX6 12 ∈ wsL_law := um_0 (List.mem_of_getElem? (i := 1) rfl)
theorem u0_2 : Cond.initialized RX6 ∈ wsL_law := um_0 (List.mem_of_getElem? (i := 2) rfl)
theorem u0_3 : Cond.classLink RL 76 RX7 ∈ wsL_law := um_0 (List.mem_of_getElem? (i := 3) rfl)
theorem u0_4 : Cond.instantiable RX7 28 ∈ wsL_law := um_0 (List.mem_of_getElem? (i := 4) rfl)
theorem u0_5 : Cond.initialized RX7 ∈ wsL_law := um_0 (List.mem_of_getElem? (i := 5) rfl)
theorem u0_6 : Cond.arrayClass .long ∈ wsL_law := um_0 (List.mem_of_getElem? (i := 6) rfl)
theorem u0_7 : Cond.methodLink RL 75 yX6_init ∈ wsL_law := um_0 (List.mem_of_getElem? (i := 7) rfl)
theorem u0_8 : Cond.instanceMethod yX6_init ∈ wsL_law := um_0 (List.mem_of_getElem? (i := 8) rfl)
theorem u0_9 : Cond.code yX6_init cX6_init 2 none ∈ wsL_law := um_0 (List.mem_of_getElem? (i := 9) rfl)
theorem u0_10 : Cond.methodLink RX6 3 objectInit ∈ wsL_law := um_0 (List.mem_of_getElem? (i := 10) rfl)
theorem u0_11 : Cond.instanceMethod objectInit ∈ wsL_law := um_0 (List.mem_of_getElem? (i := 11) rfl)
theorem u0_12 : Cond.code objectInit ⟨#[0xb1]⟩ 1 none ∈ wsL_law := um_0 (List.mem_of_getElem? (i := 12) rfl)
theorem u0_13 : Cond.classLink RX6 9 RX4 ∈ wsL_law := um_0 (List.mem_of_getElem? (i := 13) rfl)
theorem u0_14 : Cond.fieldLink RX6 11 "VisitorLoom" "nodes" "[LVisitorLoom$Node;" ∈ wsL_law := um_0 (List.mem_of_getElem? (i := 14) rfl)
theorem u0_15 : Cond.instantiable RX4 7 ∈ wsL_law := um_0 (List.mem_of_getElem? (i := 15) rfl)
theorem u0_16 : Cond.initialized RX4 ∈ wsL_law := um_0 (List.mem_of_getElem? (i := 16) rfl)
theorem u0_17 : Cond.arrayClass .boolean ∈ wsL_law := um_0 (List.mem_of_getElem? (i := 17) rfl)
theorem u0_18 : Cond.fieldLink RX6 18 "VisitorLoom" "cameNumbers" "[Z" ∈ wsL_law := um_0 (List.mem_of_getElem? (i := 18) rfl)
theorem u0_19 : Cond.classLink RX6 22 RX2 ∈ wsL_law := um_0 (List.mem_of_getElem? (i := 19) rfl)
theorem u0_20 : Cond.instantiable RX2 2 ∈ wsL_law := um_0 (List.mem_of_getElem? (i := 20) rfl)
theorem u0_21 : Cond.initialized RX2 ∈ wsL_law := um_0 (List.mem_of_getElem? (i := 21) rfl)
theorem u0_22 : Cond.fieldLink RX6 25 "VisitorLoom" "chain" "LVisitorLoom$EventChain;" ∈ wsL_law := um_0 (List.mem_of_getElem? (i := 22) rfl)
theorem u0_23 : Cond.classLink RX6 29 RX5 ∈ wsL_law := um_0 (List.mem_of_getElem? (i := 23) rfl)
theorem u1_0 : Cond.instantiable RX5 5 ∈ wsL_law := um_1 (List.mem_of_getElem? (i := 0) rfl)
theorem u1_1 : Cond.initialized RX5 ∈ wsL_law := um_1 (List.mem_of_getElem? (i := 1) rfl)
theorem u1_2 : Cond.fieldLink RX6 32 "VisitorLoom" "cutter" "LVisitorLoom$Session;" ∈ wsL_law := um_1 (List.mem_of_getElem? (i := 2) rfl)
theorem u1_3 : Cond.arrayClass .int ∈ wsL_law := um_1 (List.mem_of_getElem? (i := 3) rfl)
theorem u1_4 : Cond.fieldLink RX6 36 "VisitorLoom" "changesTold" "[I" ∈ wsL_law := um_1 (List.mem_of_getElem? (i := 4) rfl)
theorem u1_5 : Cond.fieldLink RX6 40 "VisitorLoom" "now" "I" ∈ wsL_law := um_1 (List.mem_of_getElem? (i := 5) rfl)
theorem u1_6 : Cond.methodLink RX6 15 yX4_init ∈ wsL_law := um_1 (List.mem_of_getElem? (i := 6) rfl)
theorem u1_7 : Cond.instanceMethod yX4_init ∈ wsL_law := um_1 (List.mem_of_getElem? (i := 7) rfl)
theorem u1_8 : Cond.code yX4_init cX4_init 2 none ∈ wsL_law := um_1 (List.mem_of_getElem? (i := 8) rfl)
theorem u1_9 : Cond.methodLink RX4 3 objectInit ∈ wsL_law := um_1 (List.mem_of_getElem? (i := 9) rfl)
theorem u1_10 : Cond.fieldLink RX4 9 "VisitorLoom$Node" "number" "I" ∈ wsL_law := um_1 (List.mem_of_getElem? (i := 10) rfl)
theorem u1_11 : Cond.classLink RX4 15 RX0 ∈ wsL_law := um_1 (List.mem_of_getElem? (i := 11) rfl)
theorem u1_12 : Cond.fieldLink RX4 17 "VisitorLoom$Node" "latestChanges" "[LVisitorLoom$Change;" ∈ wsL_law := um_1 (List.mem_of_getElem? (i := 12) rfl)
theorem u1_13 : Cond.instanceMethod yX2_init ∈ wsL_law := um_1 (List.mem_of_getElem? (i := 13) rfl)
theorem u1_14 : Cond.code yX2_init cX2_init 1 none ∈ wsL_law := um_1 (List.mem_of_getElem? (i := 14) rfl)
theorem u1_15 : Cond.methodLink RX2 1 objectInit ∈ wsL_law := um_1 (List.mem_of_getElem? (i := 15) rfl)
theorem u1_16 : Cond.instanceMethod yX5_init ∈ wsL_law := um_1 (List.mem_of_getElem? (i := 16) rfl)
theorem u1_17 : Cond.code yX5_init cX5_init 1 none ∈ wsL_law := um_1 (List.mem_of_getElem? (i := 17) rfl)
theorem u1_18 : Cond.methodLink RX5 3 objectInit ∈ wsL_law := um_1 (List.mem_of_getElem? (i := 18) rfl)
theorem u1_19 : Cond.methodLink RL 78 yX7_init ∈ wsL_law := um_1 (List.mem_of_getElem? (i := 19) rfl)
theorem u1_20 : Cond.instanceMethod yX7_init ∈ wsL_law := um_1 (List.mem_of_getElem? (i := 20) rfl)
theorem u1_21 : Cond.code yX7_init cX7_init 1 none ∈ wsL_law := um_1 (List.mem_of_getElem? (i := 21) rfl)
theorem u1_22 : Cond.methodLink RX7 1 objectInit ∈ wsL_law := um_1 (List.mem_of_getElem? (i := 22) rfl)
theorem u1_23 : Cond.fieldLink RX7 7 "VisitorLoomModel" "now" "I" ∈ wsL_law := um_1 (List.mem_of_getElem? (i := 23) rfl)
theorem u2_0 : Cond.fieldLink RX7 13 "VisitorLoomModel" "number" "[I" ∈ wsL_law := um_2 (List.mem_of_getElem? (i := 0) rfl)
theorem u2_1 : Cond.fieldLink RX7 17 "VisitorLoomModel" "device" "[I" ∈ wsL_law := um_2 (List.mem_of_getElem? (i := 1) rfl)
theorem u2_2 : Cond.fieldLink RX7 20 "VisitorLoomModel" "account" "[I" ∈ wsL_law := um_2 (List.mem_of_getElem? (i := 2) rfl)
theorem u2_3 : Cond.fieldLink RX7 23 "VisitorLoomModel" "kind" "[I" ∈ wsL_law := um_2 (List.mem_of_getElem? (i := 3) rfl)
theorem u2_4 : Cond.fieldLink RX7 26 "VisitorLoomModel" "campaign" "[I" ∈ wsL_law := um_2 (List.mem_of_getElem? (i := 4) rfl)
theorem u2_5 : Cond.fieldLink RX7 29 "VisitorLoomModel" "clock" "[I" ∈ wsL_law := um_2 (List.mem_of_getElem? (i := 5) rfl)
theorem u2_6 : Cond.fieldLink RX7 32 "VisitorLoomModel" "isGone" "[Z" ∈ wsL_law := um_2 (List.mem_of_getElem? (i := 6) rfl)
theorem u2_7 : Cond.fieldLink RX7 36 "VisitorLoomModel" "came" "[Z" ∈ wsL_law := um_2 (List.mem_of_getElem? (i := 7) rfl)
theorem u2_8 : Cond.fieldLink RX7 39 "VisitorLoomModel" "skew" "[I" ∈ wsL_law := um_2 (List.mem_of_getElem? (i := 8) rfl)
theorem u2_9 : Cond.fieldLink RX7 42 "VisitorLoomModel" "isShared" "[Z" ∈ wsL_law := um_2 (List.mem_of_getElem? (i := 9) rfl)
theorem u2_10 : Cond.fieldLink RX7 45 "VisitorLoomModel" "isWithdrawn" "[Z" ∈ wsL_law := um_2 (List.mem_of_getElem? (i := 10) rfl)
theorem u2_11 : Cond.fieldLink RX7 48 "VisitorLoomModel" "changes" "[I" ∈ wsL_law := um_2 (List.mem_of_getElem? (i := 11) rfl)
theorem u2_12 : Cond.fieldLink RX7 51 "VisitorLoomModel" "changeFrom" "[I" ∈ wsL_law := um_2 (List.mem_of_getElem? (i := 12) rfl)
theorem u2_13 : Cond.fieldLink RX7 54 "VisitorLoomModel" "changeTo" "[Z" ∈ wsL_law := um_2 (List.mem_of_getElem? (i := 13) rfl)
theorem u2_14 : Cond.fieldLink RX7 57 "VisitorLoomModel" "groupPurpose" "[I" ∈ wsL_law := um_2 (List.mem_of_getElem? (i := 14) rfl)
theorem u2_15 : Cond.fieldLink RX7 60 "VisitorLoomModel" "groupKind" "[I" ∈ wsL_law := um_2 (List.mem_of_getElem? (i := 15) rfl)
theorem u2_16 : Cond.fieldLink RX7 63 "VisitorLoomModel" "groupLeast" "[I" ∈ wsL_law := um_2 (List.mem_of_getElem? (i := 16) rfl)
theorem u2_17 : Cond.fieldLink RX7 66 "VisitorLoomModel" "groupDays" "[I" ∈ wsL_law := um_2 (List.mem_of_getElem? (i := 17) rfl)
theorem u2_18 : Cond.fieldLink RX7 69 "VisitorLoomModel" "isTold" "[Z" ∈ wsL_law := um_2 (List.mem_of_getElem? (i := 18) rfl)
theorem u2_19 : Cond.fieldLink RX7 72 "VisitorLoomModel" "isEver" "[Z" ∈ wsL_law := um_2 (List.mem_of_getElem? (i := 19) rfl)
theorem u2_20 : Cond.fieldLink RX7 75 "VisitorLoomModel" "telling" "[I" ∈ wsL_law := um_2 (List.mem_of_getElem? (i := 20) rfl)
theorem u2_21 : Cond.fieldLink RX7 78 "VisitorLoomModel" "lowest" "[I" ∈ wsL_law := um_2 (List.mem_of_getElem? (i := 21) rfl)
theorem u2_22 : Cond.methodLink RL 79 yL_event ∈ wsL_law := um_2 (List.mem_of_getElem? (i := 22) rfl)
theorem u2_23 : Cond.static yL_event ∈ wsL_law := um_2 (List.mem_of_getElem? (i := 23) rfl)
theorem u3_0 : Cond.initialized RL ∈ wsL_law := um_3 (List.mem_of_getElem? (i := 0) rfl)
theorem u3_1 : Cond.codeWith yL_event cL_event 9 (some .int) [(0, 25, 28, 13), (0, 25, 32, 15)] ∈ wsL_law := um_3 (List.mem_of_getElem? (i := 1) rfl)
theorem u3_2 : Cond.classLink RL 13 "java/lang/IllegalArgumentException" ∈ wsL_law := um_3 (List.mem_of_getElem? (i := 2) rfl)
theorem u3_3 : Cond.classLink RL 15 "java/lang/IllegalStateException" ∈ wsL_law := um_3 (List.mem_of_getElem? (i := 3) rfl)
theorem u3_4 : Cond.methodLink RL 7 yX6_event ∈ wsL_law := um_3 (List.mem_of_getElem? (i := 4) rfl)
theorem u3_5 : Cond.instanceMethod yX6_event ∈ wsL_law := um_3 (List.mem_of_getElem? (i := 5) rfl)
theorem u3_6 : Cond.selects RX6 yX6_event yX6_event ∈ wsL_law := um_3 (List.mem_of_getElem? (i := 6) rfl)
theorem u3_7 : Cond.code yX6_event cX6_event 10 (some .boolean) ∈ wsL_law := um_3 (List.mem_of_getElem? (i := 7) rfl)
theorem u3_8 : Cond.classLink RX6 58 "java/lang/IllegalArgumentException" ∈ wsL_law := um_3 (List.mem_of_getElem? (i := 8) rfl)
theorem u3_9 : Cond.initialized "java/lang/IllegalArgumentException" ∈ wsL_law := um_3 (List.mem_of_getElem? (i := 9) rfl)
theorem u3_10 : Cond.classLink RX6 68 "java/lang/IllegalStateException" ∈ wsL_law := um_3 (List.mem_of_getElem? (i := 10) rfl)
theorem u3_11 : Cond.initialized "java/lang/IllegalStateException" ∈ wsL_law := um_3 (List.mem_of_getElem? (i := 11) rfl)
theorem u3_12 : Cond.fieldLink RX6 65 "VisitorLoom" "takenCount" "I" ∈ wsL_law := um_3 (List.mem_of_getElem? (i := 12) rfl)
theorem u3_13 : Cond.classLink RX6 73 RX1 ∈ wsL_law := um_3 (List.mem_of_getElem? (i := 13) rfl)
theorem u3_14 : Cond.instantiable RX1 9 ∈ wsL_law := um_3 (List.mem_of_getElem? (i := 14) rfl)
theorem u3_15 : Cond.initialized RX1 ∈ wsL_law := um_3 (List.mem_of_getElem? (i := 15) rfl)
theorem u3_16 : Cond.methodLink RX6 44 yX6_deviceAt ∈ wsL_law := um_3 (List.mem_of_getElem? (i := 16) rfl)
theorem u3_17 : Cond.instanceMethod yX6_deviceAt ∈ wsL_law := um_3 (List.mem_of_getElem? (i := 17) rfl)
theorem u3_18 : Cond.selects RX6 yX6_deviceAt yX6_deviceAt ∈ wsL_law := um_3 (List.mem_of_getElem? (i := 18) rfl)
theorem u3_19 : Cond.code yX6_deviceAt cX6_deviceAt 2 (some (.object "VisitorLoom$Node")) ∈ wsL_law := um_3 (List.mem_of_getElem? (i := 19) rfl)
theorem u3_20 : Cond.methodLink RX6 130 yX6_nodeAt ∈ wsL_law := um_3 (List.mem_of_getElem? (i := 20) rfl)
theorem u3_21 : Cond.instanceMethod yX6_nodeAt ∈ wsL_law := um_3 (List.mem_of_getElem? (i := 21) rfl)
theorem u3_22 : Cond.selects RX6 yX6_nodeAt yX6_nodeAt ∈ wsL_law := um_3 (List.mem_of_getElem? (i := 22) rfl)
theorem u3_23 : Cond.code yX6_nodeAt cX6_nodeAt 2 (some (.object "VisitorLoom$Node")) ∈ wsL_law := um_3 (List.mem_of_getElem? (i := 23) rfl)
theorem u4_0 : Cond.methodLink RX6 48 yX6_accountAt ∈ wsL_law := um_4 (List.mem_of_getElem? (i := 0) rfl)
theorem u4_1 : Cond.instanceMethod yX6_accountAt ∈ wsL_law := um_4 (List.mem_of_getElem? (i := 1) rfl)
theorem u4_2 : Cond.selects RX6 yX6_accountAt yX6_accountAt ∈ wsL_law := um_4 (List.mem_of_getElem? (i := 2) rfl)
theorem u4_3 : Cond.code yX6_accountAt cX6_accountAt 2 (some (.object "VisitorLoom$Node")) ∈ wsL_law := um_4 (List.mem_of_getElem? (i := 3) rfl)
theorem u4_4 : Cond.methodLink RX6 51 yX6_isKind ∈ wsL_law := um_4 (List.mem_of_getElem? (i := 4) rfl)
theorem u4_5 : Cond.static yX6_isKind ∈ wsL_law := um_4 (List.mem_of_getElem? (i := 5) rfl)
theorem u4_6 : Cond.code yX6_isKind cX6_isKind 1 (some .boolean) ∈ wsL_law := um_4 (List.mem_of_getElem? (i := 6) rfl)
theorem u4_7 : Cond.methodLink RX6 55 yX6_isMinute ∈ wsL_law := um_4 (List.mem_of_getElem? (i := 7) rfl)
theorem u4_8 : Cond.static yX6_isMinute ∈ wsL_law := um_4 (List.mem_of_getElem? (i := 8) rfl)
theorem u4_9 : Cond.code yX6_isMinute cX6_isMinute 1 (some .boolean) ∈ wsL_law := um_4 (List.mem_of_getElem? (i := 9) rfl)
theorem u4_10 : Cond.constant RX6 190 (100000) ∈ wsL_law := um_4 (List.mem_of_getElem? (i := 10) rfl)
theorem u4_11 : Cond.methodLink RX6 75 yX1_init ∈ wsL_law := um_4 (List.mem_of_getElem? (i := 11) rfl)
theorem u4_12 : Cond.instanceMethod yX1_init ∈ wsL_law := um_4 (List.mem_of_getElem? (i := 12) rfl)
theorem u4_13 : Cond.code yX1_init cX1_init 8 none ∈ wsL_law := um_4 (List.mem_of_getElem? (i := 13) rfl)
theorem u4_14 : Cond.methodLink RX1 3 objectInit ∈ wsL_law := um_4 (List.mem_of_getElem? (i := 14) rfl)
theorem u4_15 : Cond.fieldLink RX1 9 "VisitorLoom$Event" "number" "I" ∈ wsL_law := um_4 (List.mem_of_getElem? (i := 15) rfl)
theorem u4_16 : Cond.fieldLink RX1 15 "VisitorLoom$Event" "device" "LVisitorLoom$Node;" ∈ wsL_law := um_4 (List.mem_of_getElem? (i := 16) rfl)
theorem u4_17 : Cond.fieldLink RX1 19 "VisitorLoom$Event" "account" "LVisitorLoom$Node;" ∈ wsL_law := um_4 (List.mem_of_getElem? (i := 17) rfl)
theorem u4_18 : Cond.fieldLink RX1 22 "VisitorLoom$Event" "kind" "I" ∈ wsL_law := um_4 (List.mem_of_getElem? (i := 18) rfl)
theorem u4_19 : Cond.fieldLink RX1 25 "VisitorLoom$Event" "campaign" "I" ∈ wsL_law := um_4 (List.mem_of_getElem? (i := 19) rfl)
theorem u4_20 : Cond.fieldLink RX1 28 "VisitorLoom$Event" "toldMinute" "I" ∈ wsL_law := um_4 (List.mem_of_getElem? (i := 20) rfl)
theorem u4_21 : Cond.fieldLink RX1 31 "VisitorLoom$Event" "rank" "I" ∈ wsL_law := um_4 (List.mem_of_getElem? (i := 21) rfl)
theorem u4_22 : Cond.methodLink RX6 78 yX2_put ∈ wsL_law := um_4 (List.mem_of_getElem? (i := 22) rfl)
theorem u4_23 : Cond.instanceMethod yX2_put ∈ wsL_law := um_4 (List.mem_of_getElem? (i := 23) rfl)
theorem u5_0 : Cond.selects RX2 yX2_put yX2_put ∈ wsL_law := um_5 (List.mem_of_getElem? (i := 0) rfl)
theorem u5_1 : Cond.code yX2_put cX2_put 4 none ∈ wsL_law := um_5 (List.mem_of_getElem? (i := 1) rfl)
theorem u5_2 : Cond.fieldLink RX2 7 "VisitorLoom$EventChain" "last" "LVisitorLoom$Event;" ∈ wsL_law := um_5 (List.mem_of_getElem? (i := 2) rfl)
theorem u5_3 : Cond.fieldLink RX2 19 "VisitorLoom$EventChain" "first" "LVisitorLoom$Event;" ∈ wsL_law := um_5 (List.mem_of_getElem? (i := 3) rfl)
theorem u5_4 : Cond.fieldLink RX2 22 "VisitorLoom$Event" "next" "LVisitorLoom$Event;" ∈ wsL_law := um_5 (List.mem_of_getElem? (i := 4) rfl)
theorem u5_5 : Cond.methodLink RX2 13 yX1_isBefore ∈ wsL_law := um_5 (List.mem_of_getElem? (i := 5) rfl)
theorem u5_6 : Cond.instanceMethod yX1_isBefore ∈ wsL_law := um_5 (List.mem_of_getElem? (i := 6) rfl)
theorem u5_7 : Cond.selects RX1 yX1_isBefore yX1_isBefore ∈ wsL_law := um_5 (List.mem_of_getElem? (i := 7) rfl)
theorem u5_8 : Cond.code yX1_isBefore cX1_isBefore 4 (some .boolean) ∈ wsL_law := um_5 (List.mem_of_getElem? (i := 8) rfl)
theorem u5_9 : Cond.methodLink RX1 45 yX1_minute ∈ wsL_law := um_5 (List.mem_of_getElem? (i := 9) rfl)
theorem u5_10 : Cond.instanceMethod yX1_minute ∈ wsL_law := um_5 (List.mem_of_getElem? (i := 10) rfl)
theorem u5_11 : Cond.selects RX1 yX1_minute yX1_minute ∈ wsL_law := um_5 (List.mem_of_getElem? (i := 11) rfl)
theorem u5_12 : Cond.code yX1_minute cX1_minute 1 (some .int) ∈ wsL_law := um_5 (List.mem_of_getElem? (i := 12) rfl)
theorem u5_13 : Cond.fieldLink RX1 34 "VisitorLoom$Node" "skew" "I" ∈ wsL_law := um_5 (List.mem_of_getElem? (i := 13) rfl)
theorem u5_14 : Cond.methodLink RX1 39 Lib.Math.max.name ∈ wsL_law := um_5 (List.mem_of_getElem? (i := 14) rfl)
theorem u5_15 : Cond.static Lib.Math.max.name ∈ wsL_law := um_5 (List.mem_of_getElem? (i := 15) rfl)
theorem u5_16 : Cond.initialized "java/lang/Math" ∈ wsL_law := um_5 (List.mem_of_getElem? (i := 16) rfl)
theorem u5_17 : Cond.code Lib.Math.max.name Lib.Math.max.code 2 (some .int) ∈ wsL_law := um_5 (List.mem_of_getElem? (i := 17) rfl)
theorem u5_18 : Cond.methodLink RX6 82 yX6_joinBy ∈ wsL_law := um_5 (List.mem_of_getElem? (i := 18) rfl)
theorem u5_19 : Cond.instanceMethod yX6_joinBy ∈ wsL_law := um_5 (List.mem_of_getElem? (i := 19) rfl)
theorem u5_20 : Cond.selects RX6 yX6_joinBy yX6_joinBy ∈ wsL_law := um_5 (List.mem_of_getElem? (i := 20) rfl)
theorem u5_21 : Cond.code yX6_joinBy cX6_joinBy 3 none ∈ wsL_law := um_5 (List.mem_of_getElem? (i := 21) rfl)
theorem u5_22 : Cond.fieldLink RX6 94 "VisitorLoom$Event" "device" "LVisitorLoom$Node;" ∈ wsL_law := um_5 (List.mem_of_getElem? (i := 22) rfl)
theorem u5_23 : Cond.methodLink RX6 261 yX1_linkedAccount ∈ wsL_law := um_5 (List.mem_of_getElem? (i := 23) rfl)
theorem u6_0 : Cond.instanceMethod yX1_linkedAccount ∈ wsL_law := um_6 (List.mem_of_getElem? (i := 0) rfl)
theorem u6_1 : Cond.selects RX1 yX1_linkedAccount yX1_linkedAccount ∈ wsL_law := um_6 (List.mem_of_getElem? (i := 1) rfl)
theorem u6_2 : Cond.code yX1_linkedAccount cX1_linkedAccount 1 (some (.object "VisitorLoom$Node")) ∈ wsL_law := um_6 (List.mem_of_getElem? (i := 2) rfl)
theorem u6_3 : Cond.fieldLink RX1 49 "VisitorLoom$Node" "isShared" "Z" ∈ wsL_law := um_6 (List.mem_of_getElem? (i := 3) rfl)
theorem u6_4 : Cond.methodLink RX1 53 yX4_mayLink ∈ wsL_law := um_6 (List.mem_of_getElem? (i := 4) rfl)
theorem u6_5 : Cond.instanceMethod yX4_mayLink ∈ wsL_law := um_6 (List.mem_of_getElem? (i := 5) rfl)
theorem u6_6 : Cond.selects RX4 yX4_mayLink yX4_mayLink ∈ wsL_law := um_6 (List.mem_of_getElem? (i := 6) rfl)
theorem u6_7 : Cond.code yX4_mayLink cX4_mayLink 2 (some .boolean) ∈ wsL_law := um_6 (List.mem_of_getElem? (i := 7) rfl)
theorem u6_8 : Cond.fieldLink RX4 25 "VisitorLoom$Node" "withdrawnAccounts" "I" ∈ wsL_law := um_6 (List.mem_of_getElem? (i := 8) rfl)
theorem u6_9 : Cond.methodLink RX4 28 yX4_bit ∈ wsL_law := um_6 (List.mem_of_getElem? (i := 9) rfl)
theorem u6_10 : Cond.instanceMethod yX4_bit ∈ wsL_law := um_6 (List.mem_of_getElem? (i := 10) rfl)
theorem u6_11 : Cond.selects RX4 yX4_bit yX4_bit ∈ wsL_law := um_6 (List.mem_of_getElem? (i := 11) rfl)
theorem u6_12 : Cond.code yX4_bit cX4_bit 1 (some .int) ∈ wsL_law := um_6 (List.mem_of_getElem? (i := 12) rfl)
theorem u6_13 : Cond.methodLink RX6 178 yX4_lowest ∈ wsL_law := um_6 (List.mem_of_getElem? (i := 13) rfl)
theorem u6_14 : Cond.instanceMethod yX4_lowest ∈ wsL_law := um_6 (List.mem_of_getElem? (i := 14) rfl)
theorem u6_15 : Cond.selects RX4 yX4_lowest yX4_lowest ∈ wsL_law := um_6 (List.mem_of_getElem? (i := 15) rfl)
theorem u6_16 : Cond.code yX4_lowest cX4_lowest 1 (some (.object "VisitorLoom$Node")) ∈ wsL_law := um_6 (List.mem_of_getElem? (i := 16) rfl)
theorem u6_17 : Cond.fieldLink RX4 21 "VisitorLoom$Node" "lower" "LVisitorLoom$Node;" ∈ wsL_law := um_6 (List.mem_of_getElem? (i := 17) rfl)
theorem u6_18 : Cond.methodLink RX6 264 yX6_join ∈ wsL_law := um_6 (List.mem_of_getElem? (i := 18) rfl)
theorem u6_19 : Cond.instanceMethod yX6_join ∈ wsL_law := um_6 (List.mem_of_getElem? (i := 19) rfl)
theorem u6_20 : Cond.selects RX6 yX6_join yX6_join ∈ wsL_law := um_6 (List.mem_of_getElem? (i := 20) rfl)
theorem u6_21 : Cond.code yX6_join cX6_join 9 none ∈ wsL_law := um_6 (List.mem_of_getElem? (i := 21) rfl)
theorem u6_22 : Cond.fieldLink RX6 193 "VisitorLoom$Node" "number" "I" ∈ wsL_law := um_6 (List.mem_of_getElem? (i := 22) rfl)
theorem u6_23 : Cond.methodLink RX6 268 yX4_joinTo ∈ wsL_law := um_6 (List.mem_of_getElem? (i := 23) rfl)
theorem u7_0 : Cond.instanceMethod yX4_joinTo ∈ wsL_law := um_7 (List.mem_of_getElem? (i := 0) rfl)
theorem u7_1 : Cond.selects RX4 yX4_joinTo yX4_joinTo ∈ wsL_law := um_7 (List.mem_of_getElem? (i := 1) rfl)
theorem u7_2 : Cond.code yX4_joinTo cX4_joinTo 2 none ∈ wsL_law := um_7 (List.mem_of_getElem? (i := 2) rfl)
theorem u7_3 : Cond.methodLink RL 84 yX7_event ∈ wsL_law := um_7 (List.mem_of_getElem? (i := 3) rfl)
theorem u7_4 : Cond.instanceMethod yX7_event ∈ wsL_law := um_7 (List.mem_of_getElem? (i := 4) rfl)
theorem u7_5 : Cond.selects RX7 yX7_event yX7_event ∈ wsL_law := um_7 (List.mem_of_getElem? (i := 5) rfl)
theorem u7_6 : Cond.code yX7_event cX7_event 8 (some .boolean) ∈ wsL_law := um_7 (List.mem_of_getElem? (i := 6) rfl)
theorem u7_7 : Cond.constant RX7 88 (100000) ∈ wsL_law := um_7 (List.mem_of_getElem? (i := 7) rfl)
theorem u7_8 : Cond.fieldLink RX7 81 "VisitorLoomModel" "thrown" "I" ∈ wsL_law := um_7 (List.mem_of_getElem? (i := 8) rfl)
theorem u7_9 : Cond.fieldLink RX7 89 "VisitorLoomModel" "events" "I" ∈ wsL_law := um_7 (List.mem_of_getElem? (i := 9) rfl)
theorem u7_10 : Cond.methodLink RX7 84 yX7_isIn ∈ wsL_law := um_7 (List.mem_of_getElem? (i := 10) rfl)
theorem u7_11 : Cond.static yX7_isIn ∈ wsL_law := um_7 (List.mem_of_getElem? (i := 11) rfl)
theorem u7_12 : Cond.code yX7_isIn cX7_isIn 3 (some .boolean) ∈ wsL_law := um_7 (List.mem_of_getElem? (i := 12) rfl)
theorem u7_13 : Cond.methodLink RL 85 yX7_thrown ∈ wsL_law := um_7 (List.mem_of_getElem? (i := 13) rfl)
theorem u7_14 : Cond.instanceMethod yX7_thrown ∈ wsL_law := um_7 (List.mem_of_getElem? (i := 14) rfl)
theorem u7_15 : Cond.selects RX7 yX7_thrown yX7_thrown ∈ wsL_law := um_7 (List.mem_of_getElem? (i := 15) rfl)
theorem u7_16 : Cond.code yX7_thrown cX7_thrown 1 (some .int) ∈ wsL_law := um_7 (List.mem_of_getElem? (i := 16) rfl)
theorem u7_17 : Cond.methodLink RL 89 yL_skew ∈ wsL_law := um_7 (List.mem_of_getElem? (i := 17) rfl)
theorem u7_18 : Cond.static yL_skew ∈ wsL_law := um_7 (List.mem_of_getElem? (i := 18) rfl)
theorem u7_19 : Cond.codeWith yL_skew cL_skew 5 (some .int) [(0, 10, 13, 13)] ∈ wsL_law := um_7 (List.mem_of_getElem? (i := 19) rfl)
theorem u7_20 : Cond.methodLink RL 17 yX6_skew ∈ wsL_law := um_7 (List.mem_of_getElem? (i := 20) rfl)
theorem u7_21 : Cond.instanceMethod yX6_skew ∈ wsL_law := um_7 (List.mem_of_getElem? (i := 21) rfl)
theorem u7_22 : Cond.selects RX6 yX6_skew yX6_skew ∈ wsL_law := um_7 (List.mem_of_getElem? (i := 22) rfl)
theorem u7_23 : Cond.code yX6_skew cX6_skew 6 (some .int) ∈ wsL_law := um_7 (List.mem_of_getElem? (i := 23) rfl)
theorem u8_0 : Cond.fieldLink RX6 87 "VisitorLoom$Node" "skew" "I" ∈ wsL_law := um_8 (List.mem_of_getElem? (i := 0) rfl)
theorem u8_1 : Cond.fieldLink RX6 90 "VisitorLoom$EventChain" "first" "LVisitorLoom$Event;" ∈ wsL_law := um_8 (List.mem_of_getElem? (i := 1) rfl)
theorem u8_2 : Cond.fieldLink RX6 98 "VisitorLoom$Event" "isMarked" "Z" ∈ wsL_law := um_8 (List.mem_of_getElem? (i := 2) rfl)
theorem u8_3 : Cond.fieldLink RX6 102 "VisitorLoom$Event" "next" "LVisitorLoom$Event;" ∈ wsL_law := um_8 (List.mem_of_getElem? (i := 3) rfl)
theorem u8_4 : Cond.methodLink RX6 105 yX2_takeMarked ∈ wsL_law := um_8 (List.mem_of_getElem? (i := 4) rfl)
theorem u8_5 : Cond.instanceMethod yX2_takeMarked ∈ wsL_law := um_8 (List.mem_of_getElem? (i := 5) rfl)
theorem u8_6 : Cond.selects RX2 yX2_takeMarked yX2_takeMarked ∈ wsL_law := um_8 (List.mem_of_getElem? (i := 6) rfl)
theorem u8_7 : Cond.code yX2_takeMarked cX2_takeMarked 5 (some (.object "VisitorLoom$Event")) ∈ wsL_law := um_8 (List.mem_of_getElem? (i := 7) rfl)
theorem u8_8 : Cond.fieldLink RX2 29 "VisitorLoom$Event" "isMarked" "Z" ∈ wsL_law := um_8 (List.mem_of_getElem? (i := 8) rfl)
theorem u8_9 : Cond.methodLink RX6 109 yX2_putEach ∈ wsL_law := um_8 (List.mem_of_getElem? (i := 9) rfl)
theorem u8_10 : Cond.instanceMethod yX2_putEach ∈ wsL_law := um_8 (List.mem_of_getElem? (i := 10) rfl)
theorem u8_11 : Cond.selects RX2 yX2_putEach yX2_putEach ∈ wsL_law := um_8 (List.mem_of_getElem? (i := 11) rfl)
theorem u8_12 : Cond.code yX2_putEach cX2_putEach 4 none ∈ wsL_law := um_8 (List.mem_of_getElem? (i := 12) rfl)
theorem u8_13 : Cond.methodLink RX2 25 yX2_put ∈ wsL_law := um_8 (List.mem_of_getElem? (i := 13) rfl)
theorem u8_14 : Cond.methodLink RL 92 yX7_skew ∈ wsL_law := um_8 (List.mem_of_getElem? (i := 14) rfl)
theorem u8_15 : Cond.instanceMethod yX7_skew ∈ wsL_law := um_8 (List.mem_of_getElem? (i := 15) rfl)
theorem u8_16 : Cond.selects RX7 yX7_skew yX7_skew ∈ wsL_law := um_8 (List.mem_of_getElem? (i := 16) rfl)
theorem u8_17 : Cond.code yX7_skew cX7_skew 4 (some .int) ∈ wsL_law := um_8 (List.mem_of_getElem? (i := 17) rfl)
theorem u8_18 : Cond.methodLink RL 93 yL_share ∈ wsL_law := um_8 (List.mem_of_getElem? (i := 18) rfl)
theorem u8_19 : Cond.static yL_share ∈ wsL_law := um_8 (List.mem_of_getElem? (i := 19) rfl)
theorem u8_20 : Cond.codeWith yL_share cL_share 5 (some .int) [(0, 17, 20, 13)] ∈ wsL_law := um_8 (List.mem_of_getElem? (i := 20) rfl)
theorem u8_21 : Cond.methodLink RL 21 yX6_share ∈ wsL_law := um_8 (List.mem_of_getElem? (i := 21) rfl)
theorem u8_22 : Cond.instanceMethod yX6_share ∈ wsL_law := um_8 (List.mem_of_getElem? (i := 22) rfl)
theorem u8_23 : Cond.selects RX6 yX6_share yX6_share ∈ wsL_law := um_8 (List.mem_of_getElem? (i := 23) rfl)
theorem u9_0 : Cond.code yX6_share cX6_share 5 (some .boolean) ∈ wsL_law := um_9 (List.mem_of_getElem? (i := 0) rfl)
theorem u9_1 : Cond.fieldLink RX6 114 "VisitorLoom$Node" "isShared" "Z" ∈ wsL_law := um_9 (List.mem_of_getElem? (i := 1) rfl)
theorem u9_2 : Cond.methodLink RX6 117 yX6_findProfiles ∈ wsL_law := um_9 (List.mem_of_getElem? (i := 2) rfl)
theorem u9_3 : Cond.instanceMethod yX6_findProfiles ∈ wsL_law := um_9 (List.mem_of_getElem? (i := 3) rfl)
theorem u9_4 : Cond.selects RX6 yX6_findProfiles yX6_findProfiles ∈ wsL_law := um_9 (List.mem_of_getElem? (i := 4) rfl)
theorem u9_5 : Cond.code yX6_findProfiles cX6_findProfiles 5 none ∈ wsL_law := um_9 (List.mem_of_getElem? (i := 5) rfl)
theorem u9_6 : Cond.methodLink RX6 258 yX4_standAlone ∈ wsL_law := um_9 (List.mem_of_getElem? (i := 6) rfl)
theorem u9_7 : Cond.instanceMethod yX4_standAlone ∈ wsL_law := um_9 (List.mem_of_getElem? (i := 7) rfl)
theorem u9_8 : Cond.selects RX4 yX4_standAlone yX4_standAlone ∈ wsL_law := um_9 (List.mem_of_getElem? (i := 8) rfl)
theorem u9_9 : Cond.code yX4_standAlone cX4_standAlone 1 none ∈ wsL_law := um_9 (List.mem_of_getElem? (i := 9) rfl)
theorem u9_10 : Cond.methodLink RL 96 yX7_share ∈ wsL_law := um_9 (List.mem_of_getElem? (i := 10) rfl)
theorem u9_11 : Cond.instanceMethod yX7_share ∈ wsL_law := um_9 (List.mem_of_getElem? (i := 11) rfl)
theorem u9_12 : Cond.selects RX7 yX7_share yX7_share ∈ wsL_law := um_9 (List.mem_of_getElem? (i := 12) rfl)
theorem u9_13 : Cond.code yX7_share cX7_share 4 (some .boolean) ∈ wsL_law := um_9 (List.mem_of_getElem? (i := 13) rfl)
theorem u9_14 : Cond.methodLink RL 97 yL_link ∈ wsL_law := um_9 (List.mem_of_getElem? (i := 14) rfl)
theorem u9_15 : Cond.static yL_link ∈ wsL_law := um_9 (List.mem_of_getElem? (i := 15) rfl)
theorem u9_16 : Cond.codeWith yL_link cL_link 6 (some .int) [(0, 19, 22, 13)] ∈ wsL_law := um_9 (List.mem_of_getElem? (i := 16) rfl)
theorem u9_17 : Cond.methodLink RL 25 yX6_link ∈ wsL_law := um_9 (List.mem_of_getElem? (i := 17) rfl)
theorem u9_18 : Cond.instanceMethod yX6_link ∈ wsL_law := um_9 (List.mem_of_getElem? (i := 18) rfl)
theorem u9_19 : Cond.selects RX6 yX6_link yX6_link ∈ wsL_law := um_9 (List.mem_of_getElem? (i := 19) rfl)
theorem u9_20 : Cond.code yX6_link cX6_link 7 (some .boolean) ∈ wsL_law := um_9 (List.mem_of_getElem? (i := 20) rfl)
theorem u9_21 : Cond.methodLink RX6 122 yX4_mayLink ∈ wsL_law := um_9 (List.mem_of_getElem? (i := 21) rfl)
theorem u9_22 : Cond.methodLink RX6 126 yX4_setMayLink ∈ wsL_law := um_9 (List.mem_of_getElem? (i := 22) rfl)
theorem u9_23 : Cond.instanceMethod yX4_setMayLink ∈ wsL_law := um_9 (List.mem_of_getElem? (i := 23) rfl)
theorem u10_0 : Cond.selects RX4 yX4_setMayLink yX4_setMayLink ∈ wsL_law := um_10 (List.mem_of_getElem? (i := 0) rfl)
theorem u10_1 : Cond.code yX4_setMayLink cX4_setMayLink 3 none ∈ wsL_law := um_10 (List.mem_of_getElem? (i := 1) rfl)
theorem u10_2 : Cond.methodLink RL 100 yX7_link ∈ wsL_law := um_10 (List.mem_of_getElem? (i := 2) rfl)
theorem u10_3 : Cond.instanceMethod yX7_link ∈ wsL_law := um_10 (List.mem_of_getElem? (i := 3) rfl)
theorem u10_4 : Cond.selects RX7 yX7_link yX7_link ∈ wsL_law := um_10 (List.mem_of_getElem? (i := 4) rfl)
theorem u10_5 : Cond.code yX7_link cX7_link 5 (some .boolean) ∈ wsL_law := um_10 (List.mem_of_getElem? (i := 5) rfl)
theorem u10_6 : Cond.methodLink RL 101 yL_consent ∈ wsL_law := um_10 (List.mem_of_getElem? (i := 6) rfl)
theorem u10_7 : Cond.static yL_consent ∈ wsL_law := um_10 (List.mem_of_getElem? (i := 7) rfl)
theorem u10_8 : Cond.codeWith yL_consent cL_consent 7 (some .int) [(0, 14, 17, 13), (0, 14, 21, 15)] ∈ wsL_law := um_10 (List.mem_of_getElem? (i := 8) rfl)
theorem u10_9 : Cond.methodLink RL 29 yX6_consent ∈ wsL_law := um_10 (List.mem_of_getElem? (i := 9) rfl)
theorem u10_10 : Cond.instanceMethod yX6_consent ∈ wsL_law := um_10 (List.mem_of_getElem? (i := 10) rfl)
theorem u10_11 : Cond.selects RX6 yX6_consent yX6_consent ∈ wsL_law := um_10 (List.mem_of_getElem? (i := 11) rfl)
theorem u10_12 : Cond.code yX6_consent cX6_consent 7 (some .int) ∈ wsL_law := um_10 (List.mem_of_getElem? (i := 12) rfl)
theorem u10_13 : Cond.methodLink RX6 133 yX6_isPurpose ∈ wsL_law := um_10 (List.mem_of_getElem? (i := 13) rfl)
theorem u10_14 : Cond.static yX6_isPurpose ∈ wsL_law := um_10 (List.mem_of_getElem? (i := 14) rfl)
theorem u10_15 : Cond.code yX6_isPurpose cX6_isPurpose 1 (some .boolean) ∈ wsL_law := um_10 (List.mem_of_getElem? (i := 15) rfl)
theorem u10_16 : Cond.methodLink RX6 138 yX4_changesFor ∈ wsL_law := um_10 (List.mem_of_getElem? (i := 16) rfl)
theorem u10_17 : Cond.instanceMethod yX4_changesFor ∈ wsL_law := um_10 (List.mem_of_getElem? (i := 17) rfl)
theorem u10_18 : Cond.selects RX4 yX4_changesFor yX4_changesFor ∈ wsL_law := um_10 (List.mem_of_getElem? (i := 18) rfl)
theorem u10_19 : Cond.code yX4_changesFor cX4_changesFor 4 (some .int) ∈ wsL_law := um_10 (List.mem_of_getElem? (i := 19) rfl)
theorem u10_20 : Cond.fieldLink RX4 36 "VisitorLoom$Change" "earlier" "LVisitorLoom$Change;" ∈ wsL_law := um_10 (List.mem_of_getElem? (i := 20) rfl)
theorem u10_21 : Cond.methodLink RX4 32 yX4_latestChange ∈ wsL_law := um_10 (List.mem_of_getElem? (i := 21) rfl)
theorem u10_22 : Cond.instanceMethod yX4_latestChange ∈ wsL_law := um_10 (List.mem_of_getElem? (i := 22) rfl)
theorem u10_23 : Cond.selects RX4 yX4_latestChange yX4_latestChange ∈ wsL_law := um_10 (List.mem_of_getElem? (i := 23) rfl)
theorem u11_0 : Cond.code yX4_latestChange cX4_latestChange 2 (some (.object "VisitorLoom$Change")) ∈ wsL_law := um_11 (List.mem_of_getElem? (i := 0) rfl)
theorem u11_1 : Cond.methodLink RX6 144 yX4_addChange ∈ wsL_law := um_11 (List.mem_of_getElem? (i := 1) rfl)
theorem u11_2 : Cond.instanceMethod yX4_addChange ∈ wsL_law := um_11 (List.mem_of_getElem? (i := 2) rfl)
theorem u11_3 : Cond.selects RX4 yX4_addChange yX4_addChange ∈ wsL_law := um_11 (List.mem_of_getElem? (i := 3) rfl)
theorem u11_4 : Cond.code yX4_addChange cX4_addChange 7 none ∈ wsL_law := um_11 (List.mem_of_getElem? (i := 4) rfl)
theorem u11_5 : Cond.fieldLink RX4 44 "VisitorLoom$Change" "from" "I" ∈ wsL_law := um_11 (List.mem_of_getElem? (i := 5) rfl)
theorem u11_6 : Cond.instantiable RX0 3 ∈ wsL_law := um_11 (List.mem_of_getElem? (i := 6) rfl)
theorem u11_7 : Cond.initialized RX0 ∈ wsL_law := um_11 (List.mem_of_getElem? (i := 7) rfl)
theorem u11_8 : Cond.methodLink RX4 47 yX0_init ∈ wsL_law := um_11 (List.mem_of_getElem? (i := 8) rfl)
theorem u11_9 : Cond.instanceMethod yX0_init ∈ wsL_law := um_11 (List.mem_of_getElem? (i := 9) rfl)
theorem u11_10 : Cond.code yX0_init cX0_init 4 none ∈ wsL_law := um_11 (List.mem_of_getElem? (i := 10) rfl)
theorem u11_11 : Cond.methodLink RX0 1 objectInit ∈ wsL_law := um_11 (List.mem_of_getElem? (i := 11) rfl)
theorem u11_12 : Cond.fieldLink RX0 7 "VisitorLoom$Change" "from" "I" ∈ wsL_law := um_11 (List.mem_of_getElem? (i := 12) rfl)
theorem u11_13 : Cond.fieldLink RX0 13 "VisitorLoom$Change" "isGiven" "Z" ∈ wsL_law := um_11 (List.mem_of_getElem? (i := 13) rfl)
theorem u11_14 : Cond.fieldLink RX0 17 "VisitorLoom$Change" "earlier" "LVisitorLoom$Change;" ∈ wsL_law := um_11 (List.mem_of_getElem? (i := 14) rfl)
theorem u11_15 : Cond.methodLink RL 104 yX7_consent ∈ wsL_law := um_11 (List.mem_of_getElem? (i := 15) rfl)
theorem u11_16 : Cond.instanceMethod yX7_consent ∈ wsL_law := um_11 (List.mem_of_getElem? (i := 16) rfl)
theorem u11_17 : Cond.selects RX7 yX7_consent yX7_consent ∈ wsL_law := um_11 (List.mem_of_getElem? (i := 17) rfl)
theorem u11_18 : Cond.code yX7_consent cX7_consent 6 (some .int) ∈ wsL_law := um_11 (List.mem_of_getElem? (i := 18) rfl)
theorem u11_19 : Cond.methodLink RX7 100 yX7_isNode ∈ wsL_law := um_11 (List.mem_of_getElem? (i := 19) rfl)
theorem u11_20 : Cond.instanceMethod yX7_isNode ∈ wsL_law := um_11 (List.mem_of_getElem? (i := 20) rfl)
theorem u11_21 : Cond.selects RX7 yX7_isNode yX7_isNode ∈ wsL_law := um_11 (List.mem_of_getElem? (i := 21) rfl)
theorem u11_22 : Cond.code yX7_isNode cX7_isNode 2 (some .boolean) ∈ wsL_law := um_11 (List.mem_of_getElem? (i := 22) rfl)
theorem u11_23 : Cond.methodLink RL 105 yL_group ∈ wsL_law := um_11 (List.mem_of_getElem? (i := 23) rfl)
theorem u12_0 : Cond.static yL_group ∈ wsL_law := um_12 (List.mem_of_getElem? (i := 0) rfl)
theorem u12_1 : Cond.codeWith yL_group cL_group 7 (some .int) [(0, 14, 17, 13), (0, 14, 21, 15)] ∈ wsL_law := um_12 (List.mem_of_getElem? (i := 1) rfl)
theorem u12_2 : Cond.methodLink RL 33 yX6_group ∈ wsL_law := um_12 (List.mem_of_getElem? (i := 2) rfl)
theorem u12_3 : Cond.instanceMethod yX6_group ∈ wsL_law := um_12 (List.mem_of_getElem? (i := 3) rfl)
theorem u12_4 : Cond.selects RX6 yX6_group yX6_group ∈ wsL_law := um_12 (List.mem_of_getElem? (i := 4) rfl)
theorem u12_5 : Cond.code yX6_group cX6_group 6 (some .int) ∈ wsL_law := um_12 (List.mem_of_getElem? (i := 5) rfl)
theorem u12_6 : Cond.fieldLink RX6 153 "VisitorLoom" "groupCount" "I" ∈ wsL_law := um_12 (List.mem_of_getElem? (i := 6) rfl)
theorem u12_7 : Cond.classLink RX6 158 RX3 ∈ wsL_law := um_12 (List.mem_of_getElem? (i := 7) rfl)
theorem u12_8 : Cond.instantiable RX3 7 ∈ wsL_law := um_12 (List.mem_of_getElem? (i := 8) rfl)
theorem u12_9 : Cond.initialized RX3 ∈ wsL_law := um_12 (List.mem_of_getElem? (i := 9) rfl)
theorem u12_10 : Cond.fieldLink RX6 163 "VisitorLoom" "lastGroup" "LVisitorLoom$Group;" ∈ wsL_law := um_12 (List.mem_of_getElem? (i := 10) rfl)
theorem u12_11 : Cond.fieldLink RX6 167 "VisitorLoom" "firstGroup" "LVisitorLoom$Group;" ∈ wsL_law := um_12 (List.mem_of_getElem? (i := 11) rfl)
theorem u12_12 : Cond.fieldLink RX6 170 "VisitorLoom$Group" "next" "LVisitorLoom$Group;" ∈ wsL_law := um_12 (List.mem_of_getElem? (i := 12) rfl)
theorem u12_13 : Cond.fieldLink RX6 172 "VisitorLoom$Group" "number" "I" ∈ wsL_law := um_12 (List.mem_of_getElem? (i := 13) rfl)
theorem u12_14 : Cond.methodLink RX6 148 yX6_areDays ∈ wsL_law := um_12 (List.mem_of_getElem? (i := 14) rfl)
theorem u12_15 : Cond.static yX6_areDays ∈ wsL_law := um_12 (List.mem_of_getElem? (i := 15) rfl)
theorem u12_16 : Cond.code yX6_areDays cX6_areDays 1 (some .boolean) ∈ wsL_law := um_12 (List.mem_of_getElem? (i := 16) rfl)
theorem u12_17 : Cond.methodLink RX6 160 yX3_init ∈ wsL_law := um_12 (List.mem_of_getElem? (i := 17) rfl)
theorem u12_18 : Cond.instanceMethod yX3_init ∈ wsL_law := um_12 (List.mem_of_getElem? (i := 18) rfl)
theorem u12_19 : Cond.code yX3_init cX3_init 6 none ∈ wsL_law := um_12 (List.mem_of_getElem? (i := 19) rfl)
theorem u12_20 : Cond.methodLink RX3 1 objectInit ∈ wsL_law := um_12 (List.mem_of_getElem? (i := 20) rfl)
theorem u12_21 : Cond.fieldLink RX3 7 "VisitorLoom$Group" "number" "I" ∈ wsL_law := um_12 (List.mem_of_getElem? (i := 21) rfl)
theorem u12_22 : Cond.fieldLink RX3 13 "VisitorLoom$Group" "purpose" "I" ∈ wsL_law := um_12 (List.mem_of_getElem? (i := 22) rfl)
theorem u12_23 : Cond.fieldLink RX3 16 "VisitorLoom$Group" "kind" "I" ∈ wsL_law := um_12 (List.mem_of_getElem? (i := 23) rfl)
theorem u13_0 : Cond.fieldLink RX3 19 "VisitorLoom$Group" "least" "I" ∈ wsL_law := um_13 (List.mem_of_getElem? (i := 0) rfl)
theorem u13_1 : Cond.fieldLink RX3 22 "VisitorLoom$Group" "days" "I" ∈ wsL_law := um_13 (List.mem_of_getElem? (i := 1) rfl)
theorem u13_2 : Cond.methodLink RL 108 yX7_group ∈ wsL_law := um_13 (List.mem_of_getElem? (i := 2) rfl)
theorem u13_3 : Cond.instanceMethod yX7_group ∈ wsL_law := um_13 (List.mem_of_getElem? (i := 3) rfl)
theorem u13_4 : Cond.selects RX7 yX7_group yX7_group ∈ wsL_law := um_13 (List.mem_of_getElem? (i := 4) rfl)
theorem u13_5 : Cond.code yX7_group cX7_group 6 (some .int) ∈ wsL_law := um_13 (List.mem_of_getElem? (i := 5) rfl)
theorem u13_6 : Cond.fieldLink RX7 137 "VisitorLoomModel" "groups" "I" ∈ wsL_law := um_13 (List.mem_of_getElem? (i := 6) rfl)
theorem u13_7 : Cond.methodLink RL 109 yL_forget ∈ wsL_law := um_13 (List.mem_of_getElem? (i := 7) rfl)
theorem u13_8 : Cond.static yL_forget ∈ wsL_law := um_13 (List.mem_of_getElem? (i := 8) rfl)
theorem u13_9 : Cond.codeWith yL_forget cL_forget 4 (some .int) [(0, 9, 12, 13)] ∈ wsL_law := um_13 (List.mem_of_getElem? (i := 9) rfl)
theorem u13_10 : Cond.methodLink RL 37 yX6_forget ∈ wsL_law := um_13 (List.mem_of_getElem? (i := 10) rfl)
theorem u13_11 : Cond.instanceMethod yX6_forget ∈ wsL_law := um_13 (List.mem_of_getElem? (i := 11) rfl)
theorem u13_12 : Cond.selects RX6 yX6_forget yX6_forget ∈ wsL_law := um_13 (List.mem_of_getElem? (i := 12) rfl)
theorem u13_13 : Cond.code yX6_forget cX6_forget 8 (some .int) ∈ wsL_law := um_13 (List.mem_of_getElem? (i := 13) rfl)
theorem u13_14 : Cond.methodLink RX6 175 yX6_neededNode ∈ wsL_law := um_13 (List.mem_of_getElem? (i := 14) rfl)
theorem u13_15 : Cond.instanceMethod yX6_neededNode ∈ wsL_law := um_13 (List.mem_of_getElem? (i := 15) rfl)
theorem u13_16 : Cond.selects RX6 yX6_neededNode yX6_neededNode ∈ wsL_law := um_13 (List.mem_of_getElem? (i := 16) rfl)
theorem u13_17 : Cond.code yX6_neededNode cX6_neededNode 3 (some (.object "VisitorLoom$Node")) ∈ wsL_law := um_13 (List.mem_of_getElem? (i := 17) rfl)
theorem u13_18 : Cond.methodLink RX6 182 yX1_isOf ∈ wsL_law := um_13 (List.mem_of_getElem? (i := 18) rfl)
theorem u13_19 : Cond.instanceMethod yX1_isOf ∈ wsL_law := um_13 (List.mem_of_getElem? (i := 19) rfl)
theorem u13_20 : Cond.selects RX1 yX1_isOf yX1_isOf ∈ wsL_law := um_13 (List.mem_of_getElem? (i := 20) rfl)
theorem u13_21 : Cond.code yX1_isOf cX1_isOf 2 (some .boolean) ∈ wsL_law := um_13 (List.mem_of_getElem? (i := 21) rfl)
theorem u13_22 : Cond.methodLink RX1 57 yX1_owner ∈ wsL_law := um_13 (List.mem_of_getElem? (i := 22) rfl)
theorem u13_23 : Cond.instanceMethod yX1_owner ∈ wsL_law := um_13 (List.mem_of_getElem? (i := 23) rfl)
theorem u14_0 : Cond.selects RX1 yX1_owner yX1_owner ∈ wsL_law := um_14 (List.mem_of_getElem? (i := 0) rfl)
theorem u14_1 : Cond.code yX1_owner cX1_owner 1 (some (.object "VisitorLoom$Node")) ∈ wsL_law := um_14 (List.mem_of_getElem? (i := 1) rfl)
theorem u14_2 : Cond.methodLink RX1 61 yX4_lowest ∈ wsL_law := um_14 (List.mem_of_getElem? (i := 2) rfl)
theorem u14_3 : Cond.methodLink RX6 185 yX4_clearChanges ∈ wsL_law := um_14 (List.mem_of_getElem? (i := 3) rfl)
theorem u14_4 : Cond.instanceMethod yX4_clearChanges ∈ wsL_law := um_14 (List.mem_of_getElem? (i := 4) rfl)
theorem u14_5 : Cond.selects RX4 yX4_clearChanges yX4_clearChanges ∈ wsL_law := um_14 (List.mem_of_getElem? (i := 5) rfl)
theorem u14_6 : Cond.code yX4_clearChanges cX4_clearChanges 2 none ∈ wsL_law := um_14 (List.mem_of_getElem? (i := 6) rfl)
theorem u14_7 : Cond.methodLink RL 112 yX7_forget ∈ wsL_law := um_14 (List.mem_of_getElem? (i := 7) rfl)
theorem u14_8 : Cond.instanceMethod yX7_forget ∈ wsL_law := um_14 (List.mem_of_getElem? (i := 8) rfl)
theorem u14_9 : Cond.selects RX7 yX7_forget yX7_forget ∈ wsL_law := um_14 (List.mem_of_getElem? (i := 9) rfl)
theorem u14_10 : Cond.code yX7_forget cX7_forget 5 (some .int) ∈ wsL_law := um_14 (List.mem_of_getElem? (i := 10) rfl)
theorem u14_11 : Cond.methodLink RX7 103 yX7_finds ∈ wsL_law := um_14 (List.mem_of_getElem? (i := 11) rfl)
theorem u14_12 : Cond.instanceMethod yX7_finds ∈ wsL_law := um_14 (List.mem_of_getElem? (i := 12) rfl)
theorem u14_13 : Cond.selects RX7 yX7_finds yX7_finds ∈ wsL_law := um_14 (List.mem_of_getElem? (i := 13) rfl)
theorem u14_14 : Cond.code yX7_finds cX7_finds 6 none ∈ wsL_law := um_14 (List.mem_of_getElem? (i := 14) rfl)
theorem u14_15 : Cond.methodLink RX7 92 yX7_links ∈ wsL_law := um_14 (List.mem_of_getElem? (i := 15) rfl)
theorem u14_16 : Cond.instanceMethod yX7_links ∈ wsL_law := um_14 (List.mem_of_getElem? (i := 16) rfl)
theorem u14_17 : Cond.selects RX7 yX7_links yX7_links ∈ wsL_law := um_14 (List.mem_of_getElem? (i := 17) rfl)
theorem u14_18 : Cond.code yX7_links cX7_links 2 (some .boolean) ∈ wsL_law := um_14 (List.mem_of_getElem? (i := 18) rfl)
theorem u14_19 : Cond.methodLink RX7 112 yX7_belongs ∈ wsL_law := um_14 (List.mem_of_getElem? (i := 19) rfl)
theorem u14_20 : Cond.instanceMethod yX7_belongs ∈ wsL_law := um_14 (List.mem_of_getElem? (i := 20) rfl)
theorem u14_21 : Cond.selects RX7 yX7_belongs yX7_belongs ∈ wsL_law := um_14 (List.mem_of_getElem? (i := 21) rfl)
theorem u14_22 : Cond.code yX7_belongs cX7_belongs 3 (some .boolean) ∈ wsL_law := um_14 (List.mem_of_getElem? (i := 22) rfl)
theorem u14_23 : Cond.methodLink RX7 96 yX7_nodeOf ∈ wsL_law := um_14 (List.mem_of_getElem? (i := 23) rfl)
theorem u15_0 : Cond.instanceMethod yX7_nodeOf ∈ wsL_law := um_15 (List.mem_of_getElem? (i := 0) rfl)
theorem u15_1 : Cond.selects RX7 yX7_nodeOf yX7_nodeOf ∈ wsL_law := um_15 (List.mem_of_getElem? (i := 1) rfl)
theorem u15_2 : Cond.code yX7_nodeOf cX7_nodeOf 2 (some .int) ∈ wsL_law := um_15 (List.mem_of_getElem? (i := 2) rfl)
theorem u15_3 : Cond.methodLink RL 113 yL_pass ∈ wsL_law := um_15 (List.mem_of_getElem? (i := 3) rfl)
theorem u15_4 : Cond.static yL_pass ∈ wsL_law := um_15 (List.mem_of_getElem? (i := 4) rfl)
theorem u15_5 : Cond.codeWith yL_pass cL_pass 4 (some .int) [(0, 9, 12, 13), (0, 9, 15, 15)] ∈ wsL_law := um_15 (List.mem_of_getElem? (i := 5) rfl)
theorem u15_6 : Cond.methodLink RL 41 yX6_pass ∈ wsL_law := um_15 (List.mem_of_getElem? (i := 6) rfl)
theorem u15_7 : Cond.instanceMethod yX6_pass ∈ wsL_law := um_15 (List.mem_of_getElem? (i := 7) rfl)
theorem u15_8 : Cond.selects RX6 yX6_pass yX6_pass ∈ wsL_law := um_15 (List.mem_of_getElem? (i := 8) rfl)
theorem u15_9 : Cond.code yX6_pass cX6_pass 2 (some .int) ∈ wsL_law := um_15 (List.mem_of_getElem? (i := 9) rfl)
theorem u15_10 : Cond.methodLink RL 115 yX7_pass ∈ wsL_law := um_15 (List.mem_of_getElem? (i := 10) rfl)
theorem u15_11 : Cond.instanceMethod yX7_pass ∈ wsL_law := um_15 (List.mem_of_getElem? (i := 11) rfl)
theorem u15_12 : Cond.selects RX7 yX7_pass yX7_pass ∈ wsL_law := um_15 (List.mem_of_getElem? (i := 12) rfl)
theorem u15_13 : Cond.code yX7_pass cX7_pass 2 (some .int) ∈ wsL_law := um_15 (List.mem_of_getElem? (i := 13) rfl)
theorem u15_14 : Cond.methodLink RL 116 yL_profile ∈ wsL_law := um_15 (List.mem_of_getElem? (i := 14) rfl)
theorem u15_15 : Cond.static yL_profile ∈ wsL_law := um_15 (List.mem_of_getElem? (i := 15) rfl)
theorem u15_16 : Cond.codeWith yL_profile cL_profile 4 (some .int) [(0, 9, 12, 13)] ∈ wsL_law := um_15 (List.mem_of_getElem? (i := 16) rfl)
theorem u15_17 : Cond.methodLink RL 44 yX6_profile ∈ wsL_law := um_15 (List.mem_of_getElem? (i := 17) rfl)
theorem u15_18 : Cond.instanceMethod yX6_profile ∈ wsL_law := um_15 (List.mem_of_getElem? (i := 18) rfl)
theorem u15_19 : Cond.selects RX6 yX6_profile yX6_profile ∈ wsL_law := um_15 (List.mem_of_getElem? (i := 19) rfl)
theorem u15_20 : Cond.code yX6_profile cX6_profile 2 (some .int) ∈ wsL_law := um_15 (List.mem_of_getElem? (i := 20) rfl)
theorem u15_21 : Cond.methodLink RL 118 yX7_profile ∈ wsL_law := um_15 (List.mem_of_getElem? (i := 21) rfl)
theorem u15_22 : Cond.instanceMethod yX7_profile ∈ wsL_law := um_15 (List.mem_of_getElem? (i := 22) rfl)
theorem u15_23 : Cond.selects RX7 yX7_profile yX7_profile ∈ wsL_law := um_15 (List.mem_of_getElem? (i := 23) rfl)
theorem u16_0 : Cond.code yX7_profile cX7_profile 2 (some .int) ∈ wsL_law := um_16 (List.mem_of_getElem? (i := 0) rfl)
theorem u16_1 : Cond.methodLink RL 119 yL_profileAnew ∈ wsL_law := um_16 (List.mem_of_getElem? (i := 1) rfl)
theorem u16_2 : Cond.static yL_profileAnew ∈ wsL_law := um_16 (List.mem_of_getElem? (i := 2) rfl)
theorem u16_3 : Cond.codeWith yL_profileAnew cL_profileAnew 4 (some .int) [(0, 9, 12, 13)] ∈ wsL_law := um_16 (List.mem_of_getElem? (i := 3) rfl)
theorem u16_4 : Cond.methodLink RL 47 yX6_profileAnew ∈ wsL_law := um_16 (List.mem_of_getElem? (i := 4) rfl)
theorem u16_5 : Cond.instanceMethod yX6_profileAnew ∈ wsL_law := um_16 (List.mem_of_getElem? (i := 5) rfl)
theorem u16_6 : Cond.selects RX6 yX6_profileAnew yX6_profileAnew ∈ wsL_law := um_16 (List.mem_of_getElem? (i := 6) rfl)
theorem u16_7 : Cond.code yX6_profileAnew cX6_profileAnew 3 (some .int) ∈ wsL_law := um_16 (List.mem_of_getElem? (i := 7) rfl)
theorem u16_8 : Cond.methodLink RL 121 yX7_profileAnew ∈ wsL_law := um_16 (List.mem_of_getElem? (i := 8) rfl)
theorem u16_9 : Cond.instanceMethod yX7_profileAnew ∈ wsL_law := um_16 (List.mem_of_getElem? (i := 9) rfl)
theorem u16_10 : Cond.selects RX7 yX7_profileAnew yX7_profileAnew ∈ wsL_law := um_16 (List.mem_of_getElem? (i := 10) rfl)
theorem u16_11 : Cond.code yX7_profileAnew cX7_profileAnew 2 (some .int) ∈ wsL_law := um_16 (List.mem_of_getElem? (i := 11) rfl)
theorem u16_12 : Cond.methodLink RX7 106 yX7_profile ∈ wsL_law := um_16 (List.mem_of_getElem? (i := 12) rfl)
theorem u16_13 : Cond.methodLink RL 122 yL_events ∈ wsL_law := um_16 (List.mem_of_getElem? (i := 13) rfl)
theorem u16_14 : Cond.static yL_events ∈ wsL_law := um_16 (List.mem_of_getElem? (i := 14) rfl)
theorem u16_15 : Cond.codeWith yL_events cL_events 5 (some .int) [(0, 10, 13, 13)] ∈ wsL_law := um_16 (List.mem_of_getElem? (i := 15) rfl)
theorem u16_16 : Cond.methodLink RL 50 yX6_events ∈ wsL_law := um_16 (List.mem_of_getElem? (i := 16) rfl)
theorem u16_17 : Cond.instanceMethod yX6_events ∈ wsL_law := um_16 (List.mem_of_getElem? (i := 17) rfl)
theorem u16_18 : Cond.selects RX6 yX6_events yX6_events ∈ wsL_law := um_16 (List.mem_of_getElem? (i := 18) rfl)
theorem u16_19 : Cond.code yX6_events cX6_events 7 (some .int) ∈ wsL_law := um_16 (List.mem_of_getElem? (i := 19) rfl)
theorem u16_20 : Cond.fieldLink RX6 196 "VisitorLoom$Event" "kind" "I" ∈ wsL_law := um_16 (List.mem_of_getElem? (i := 20) rfl)
theorem u16_21 : Cond.methodLink RL 124 yX7_events ∈ wsL_law := um_16 (List.mem_of_getElem? (i := 21) rfl)
theorem u16_22 : Cond.instanceMethod yX7_events ∈ wsL_law := um_16 (List.mem_of_getElem? (i := 22) rfl)
theorem u16_23 : Cond.selects RX7 yX7_events yX7_events ∈ wsL_law := um_16 (List.mem_of_getElem? (i := 23) rfl)
theorem u17_0 : Cond.code yX7_events cX7_events 5 (some .int) ∈ wsL_law := um_17 (List.mem_of_getElem? (i := 0) rfl)
theorem u17_1 : Cond.methodLink RL 125 yL_eventAt ∈ wsL_law := um_17 (List.mem_of_getElem? (i := 1) rfl)
theorem u17_2 : Cond.static yL_eventAt ∈ wsL_law := um_17 (List.mem_of_getElem? (i := 2) rfl)
theorem u17_3 : Cond.codeWith yL_eventAt cL_eventAt 5 (some .int) [(0, 10, 13, 56), (0, 10, 17, 13)] ∈ wsL_law := um_17 (List.mem_of_getElem? (i := 3) rfl)
theorem u17_4 : Cond.classLink RL 56 "java/lang/IndexOutOfBoundsException" ∈ wsL_law := um_17 (List.mem_of_getElem? (i := 4) rfl)
theorem u17_5 : Cond.methodLink RL 53 yX6_eventAt ∈ wsL_law := um_17 (List.mem_of_getElem? (i := 5) rfl)
theorem u17_6 : Cond.instanceMethod yX6_eventAt ∈ wsL_law := um_17 (List.mem_of_getElem? (i := 6) rfl)
theorem u17_7 : Cond.selects RX6 yX6_eventAt yX6_eventAt ∈ wsL_law := um_17 (List.mem_of_getElem? (i := 7) rfl)
theorem u17_8 : Cond.code yX6_eventAt cX6_eventAt 6 (some .int) ∈ wsL_law := um_17 (List.mem_of_getElem? (i := 8) rfl)
theorem u17_9 : Cond.classLink RX6 200 "java/lang/IndexOutOfBoundsException" ∈ wsL_law := um_17 (List.mem_of_getElem? (i := 9) rfl)
theorem u17_10 : Cond.initialized "java/lang/IndexOutOfBoundsException" ∈ wsL_law := um_17 (List.mem_of_getElem? (i := 10) rfl)
theorem u17_11 : Cond.fieldLink RX6 199 "VisitorLoom$Event" "number" "I" ∈ wsL_law := um_17 (List.mem_of_getElem? (i := 11) rfl)
theorem u17_12 : Cond.methodLink RL 127 yX7_eventAt ∈ wsL_law := um_17 (List.mem_of_getElem? (i := 12) rfl)
theorem u17_13 : Cond.instanceMethod yX7_eventAt ∈ wsL_law := um_17 (List.mem_of_getElem? (i := 13) rfl)
theorem u17_14 : Cond.selects RX7 yX7_eventAt yX7_eventAt ∈ wsL_law := um_17 (List.mem_of_getElem? (i := 14) rfl)
theorem u17_15 : Cond.code yX7_eventAt cX7_eventAt 5 (some .int) ∈ wsL_law := um_17 (List.mem_of_getElem? (i := 15) rfl)
theorem u17_16 : Cond.methodLink RX7 119 yX7_behind ∈ wsL_law := um_17 (List.mem_of_getElem? (i := 16) rfl)
theorem u17_17 : Cond.instanceMethod yX7_behind ∈ wsL_law := um_17 (List.mem_of_getElem? (i := 17) rfl)
theorem u17_18 : Cond.selects RX7 yX7_behind yX7_behind ∈ wsL_law := um_17 (List.mem_of_getElem? (i := 18) rfl)
theorem u17_19 : Cond.code yX7_behind cX7_behind 6 (some .int) ∈ wsL_law := um_17 (List.mem_of_getElem? (i := 19) rfl)
theorem u17_20 : Cond.methodLink RX7 116 yX7_isAhead ∈ wsL_law := um_17 (List.mem_of_getElem? (i := 20) rfl)
theorem u17_21 : Cond.instanceMethod yX7_isAhead ∈ wsL_law := um_17 (List.mem_of_getElem? (i := 21) rfl)
theorem u17_22 : Cond.selects RX7 yX7_isAhead yX7_isAhead ∈ wsL_law := um_17 (List.mem_of_getElem? (i := 22) rfl)
theorem u17_23 : Cond.code yX7_isAhead cX7_isAhead 3 (some .boolean) ∈ wsL_law := um_17 (List.mem_of_getElem? (i := 23) rfl)
theorem u18_0 : Cond.methodLink RX7 109 yX7_timeOf ∈ wsL_law := um_18 (List.mem_of_getElem? (i := 0) rfl)
theorem u18_1 : Cond.instanceMethod yX7_timeOf ∈ wsL_law := um_18 (List.mem_of_getElem? (i := 1) rfl)
theorem u18_2 : Cond.selects RX7 yX7_timeOf yX7_timeOf ∈ wsL_law := um_18 (List.mem_of_getElem? (i := 2) rfl)
theorem u18_3 : Cond.code yX7_timeOf cX7_timeOf 3 (some .int) ∈ wsL_law := um_18 (List.mem_of_getElem? (i := 3) rfl)
theorem u18_4 : Cond.methodLink RL 128 yX6_time ∈ wsL_law := um_18 (List.mem_of_getElem? (i := 4) rfl)
theorem u18_5 : Cond.instanceMethod yX6_time ∈ wsL_law := um_18 (List.mem_of_getElem? (i := 5) rfl)
theorem u18_6 : Cond.selects RX6 yX6_time yX6_time ∈ wsL_law := um_18 (List.mem_of_getElem? (i := 6) rfl)
theorem u18_7 : Cond.code yX6_time cX6_time 3 (some .int) ∈ wsL_law := um_18 (List.mem_of_getElem? (i := 7) rfl)
theorem u18_8 : Cond.methodLink RX6 205 yX1_minute ∈ wsL_law := um_18 (List.mem_of_getElem? (i := 8) rfl)
theorem u18_9 : Cond.methodLink RL 131 yX7_time ∈ wsL_law := um_18 (List.mem_of_getElem? (i := 9) rfl)
theorem u18_10 : Cond.instanceMethod yX7_time ∈ wsL_law := um_18 (List.mem_of_getElem? (i := 10) rfl)
theorem u18_11 : Cond.selects RX7 yX7_time yX7_time ∈ wsL_law := um_18 (List.mem_of_getElem? (i := 11) rfl)
theorem u18_12 : Cond.code yX7_time cX7_time 4 (some .int) ∈ wsL_law := um_18 (List.mem_of_getElem? (i := 12) rfl)
theorem u18_13 : Cond.methodLink RL 132 yL_sessions ∈ wsL_law := um_18 (List.mem_of_getElem? (i := 13) rfl)
theorem u18_14 : Cond.static yL_sessions ∈ wsL_law := um_18 (List.mem_of_getElem? (i := 14) rfl)
theorem u18_15 : Cond.codeWith yL_sessions cL_sessions 4 (some .int) [(0, 9, 12, 13)] ∈ wsL_law := um_18 (List.mem_of_getElem? (i := 15) rfl)
theorem u18_16 : Cond.methodLink RL 58 yX6_sessions ∈ wsL_law := um_18 (List.mem_of_getElem? (i := 16) rfl)
theorem u18_17 : Cond.instanceMethod yX6_sessions ∈ wsL_law := um_18 (List.mem_of_getElem? (i := 17) rfl)
theorem u18_18 : Cond.selects RX6 yX6_sessions yX6_sessions ∈ wsL_law := um_18 (List.mem_of_getElem? (i := 18) rfl)
theorem u18_19 : Cond.code yX6_sessions cX6_sessions 2 (some .int) ∈ wsL_law := um_18 (List.mem_of_getElem? (i := 19) rfl)
theorem u18_20 : Cond.fieldLink RX6 213 "VisitorLoom$Session" "begun" "I" ∈ wsL_law := um_18 (List.mem_of_getElem? (i := 20) rfl)
theorem u18_21 : Cond.methodLink RX6 209 yX6_cutUpTo ∈ wsL_law := um_18 (List.mem_of_getElem? (i := 21) rfl)
theorem u18_22 : Cond.instanceMethod yX6_cutUpTo ∈ wsL_law := um_18 (List.mem_of_getElem? (i := 22) rfl)
theorem u18_23 : Cond.selects RX6 yX6_cutUpTo yX6_cutUpTo ∈ wsL_law := um_18 (List.mem_of_getElem? (i := 23) rfl)
theorem u19_0 : Cond.code yX6_cutUpTo cX6_cutUpTo 5 none ∈ wsL_law := um_19 (List.mem_of_getElem? (i := 0) rfl)
theorem u19_1 : Cond.methodLink RX6 272 yX5_restart ∈ wsL_law := um_19 (List.mem_of_getElem? (i := 1) rfl)
theorem u19_2 : Cond.instanceMethod yX5_restart ∈ wsL_law := um_19 (List.mem_of_getElem? (i := 2) rfl)
theorem u19_3 : Cond.selects RX5 yX5_restart yX5_restart ∈ wsL_law := um_19 (List.mem_of_getElem? (i := 3) rfl)
theorem u19_4 : Cond.code yX5_restart cX5_restart 1 none ∈ wsL_law := um_19 (List.mem_of_getElem? (i := 4) rfl)
theorem u19_5 : Cond.fieldLink RX5 9 "VisitorLoom$Session" "begun" "I" ∈ wsL_law := um_19 (List.mem_of_getElem? (i := 5) rfl)
theorem u19_6 : Cond.methodLink RX6 275 yX5_isCutBy ∈ wsL_law := um_19 (List.mem_of_getElem? (i := 6) rfl)
theorem u19_7 : Cond.instanceMethod yX5_isCutBy ∈ wsL_law := um_19 (List.mem_of_getElem? (i := 7) rfl)
theorem u19_8 : Cond.selects RX5 yX5_isCutBy yX5_isCutBy ∈ wsL_law := um_19 (List.mem_of_getElem? (i := 8) rfl)
theorem u19_9 : Cond.code yX5_isCutBy cX5_isCutBy 3 (some .boolean) ∈ wsL_law := um_19 (List.mem_of_getElem? (i := 9) rfl)
theorem u19_10 : Cond.fieldLink RX5 21 "VisitorLoom$Session" "lastMinute" "I" ∈ wsL_law := um_19 (List.mem_of_getElem? (i := 10) rfl)
theorem u19_11 : Cond.fieldLink RX5 24 "VisitorLoom$Session" "campaign" "I" ∈ wsL_law := um_19 (List.mem_of_getElem? (i := 11) rfl)
theorem u19_12 : Cond.fieldLink RX5 27 "VisitorLoom$Event" "campaign" "I" ∈ wsL_law := um_19 (List.mem_of_getElem? (i := 12) rfl)
theorem u19_13 : Cond.methodLink RX5 15 yX1_minute ∈ wsL_law := um_19 (List.mem_of_getElem? (i := 13) rfl)
theorem u19_14 : Cond.methodLink RX6 279 yX5_begin ∈ wsL_law := um_19 (List.mem_of_getElem? (i := 14) rfl)
theorem u19_15 : Cond.instanceMethod yX5_begin ∈ wsL_law := um_19 (List.mem_of_getElem? (i := 15) rfl)
theorem u19_16 : Cond.selects RX5 yX5_begin yX5_begin ∈ wsL_law := um_19 (List.mem_of_getElem? (i := 16) rfl)
theorem u19_17 : Cond.code yX5_begin cX5_begin 2 none ∈ wsL_law := um_19 (List.mem_of_getElem? (i := 17) rfl)
theorem u19_18 : Cond.fieldLink RX5 28 "VisitorLoom$Session" "firstMinute" "I" ∈ wsL_law := um_19 (List.mem_of_getElem? (i := 18) rfl)
theorem u19_19 : Cond.fieldLink RX5 31 "VisitorLoom$Session" "size" "I" ∈ wsL_law := um_19 (List.mem_of_getElem? (i := 19) rfl)
theorem u19_20 : Cond.methodLink RX6 282 yX5_add ∈ wsL_law := um_19 (List.mem_of_getElem? (i := 20) rfl)
theorem u19_21 : Cond.instanceMethod yX5_add ∈ wsL_law := um_19 (List.mem_of_getElem? (i := 21) rfl)
theorem u19_22 : Cond.selects RX5 yX5_add yX5_add ∈ wsL_law := um_19 (List.mem_of_getElem? (i := 22) rfl)
theorem u19_23 : Cond.code yX5_add cX5_add 2 none ∈ wsL_law := um_19 (List.mem_of_getElem? (i := 23) rfl)
theorem u20_0 : Cond.methodLink RL 134 yX7_sessions ∈ wsL_law := um_20 (List.mem_of_getElem? (i := 0) rfl)
theorem u20_1 : Cond.instanceMethod yX7_sessions ∈ wsL_law := um_20 (List.mem_of_getElem? (i := 1) rfl)
theorem u20_2 : Cond.selects RX7 yX7_sessions yX7_sessions ∈ wsL_law := um_20 (List.mem_of_getElem? (i := 2) rfl)
theorem u20_3 : Cond.code yX7_sessions cX7_sessions 2 (some .int) ∈ wsL_law := um_20 (List.mem_of_getElem? (i := 3) rfl)
theorem u20_4 : Cond.methodLink RX7 126 yX7_goes ∈ wsL_law := um_20 (List.mem_of_getElem? (i := 4) rfl)
theorem u20_5 : Cond.instanceMethod yX7_goes ∈ wsL_law := um_20 (List.mem_of_getElem? (i := 5) rfl)
theorem u20_6 : Cond.selects RX7 yX7_goes yX7_goes ∈ wsL_law := um_20 (List.mem_of_getElem? (i := 6) rfl)
theorem u20_7 : Cond.code yX7_goes cX7_goes 11 (some .int) ∈ wsL_law := um_20 (List.mem_of_getElem? (i := 7) rfl)
theorem u20_8 : Cond.methodLink RX7 123 yX7_cuts ∈ wsL_law := um_20 (List.mem_of_getElem? (i := 8) rfl)
theorem u20_9 : Cond.instanceMethod yX7_cuts ∈ wsL_law := um_20 (List.mem_of_getElem? (i := 9) rfl)
theorem u20_10 : Cond.selects RX7 yX7_cuts yX7_cuts ∈ wsL_law := um_20 (List.mem_of_getElem? (i := 10) rfl)
theorem u20_11 : Cond.code yX7_cuts cX7_cuts 5 (some .boolean) ∈ wsL_law := um_20 (List.mem_of_getElem? (i := 11) rfl)
theorem u20_12 : Cond.methodLink RL 135 yL_session ∈ wsL_law := um_20 (List.mem_of_getElem? (i := 12) rfl)
theorem u20_13 : Cond.static yL_session ∈ wsL_law := um_20 (List.mem_of_getElem? (i := 13) rfl)
theorem u20_14 : Cond.codeWith yL_session cL_session 6 (some .int) [(0, 12, 15, 56), (0, 12, 19, 13)] ∈ wsL_law := um_20 (List.mem_of_getElem? (i := 14) rfl)
theorem u20_15 : Cond.methodLink RL 61 yX6_session ∈ wsL_law := um_20 (List.mem_of_getElem? (i := 15) rfl)
theorem u20_16 : Cond.instanceMethod yX6_session ∈ wsL_law := um_20 (List.mem_of_getElem? (i := 16) rfl)
theorem u20_17 : Cond.selects RX6 yX6_session yX6_session ∈ wsL_law := um_20 (List.mem_of_getElem? (i := 17) rfl)
theorem u20_18 : Cond.code yX6_session cX6_session 5 (some .int) ∈ wsL_law := um_20 (List.mem_of_getElem? (i := 18) rfl)
theorem u20_19 : Cond.fieldLink RX6 220 "VisitorLoom$Session" "firstMinute" "I" ∈ wsL_law := um_20 (List.mem_of_getElem? (i := 19) rfl)
theorem u20_20 : Cond.fieldLink RX6 223 "VisitorLoom$Session" "lastMinute" "I" ∈ wsL_law := um_20 (List.mem_of_getElem? (i := 20) rfl)
theorem u20_21 : Cond.fieldLink RX6 226 "VisitorLoom$Session" "size" "I" ∈ wsL_law := um_20 (List.mem_of_getElem? (i := 21) rfl)
theorem u20_22 : Cond.fieldLink RX6 229 "VisitorLoom$Session" "campaign" "I" ∈ wsL_law := um_20 (List.mem_of_getElem? (i := 22) rfl)
theorem u20_23 : Cond.methodLink RL 138 yX7_session ∈ wsL_law := um_20 (List.mem_of_getElem? (i := 23) rfl)
theorem u21_0 : Cond.instanceMethod yX7_session ∈ wsL_law := um_21 (List.mem_of_getElem? (i := 0) rfl)
theorem u21_1 : Cond.selects RX7 yX7_session yX7_session ∈ wsL_law := um_21 (List.mem_of_getElem? (i := 1) rfl)
theorem u21_2 : Cond.code yX7_session cX7_session 5 (some .int) ∈ wsL_law := um_21 (List.mem_of_getElem? (i := 2) rfl)
theorem u21_3 : Cond.methodLink RL 139 yL_counted ∈ wsL_law := um_21 (List.mem_of_getElem? (i := 3) rfl)
theorem u21_4 : Cond.static yL_counted ∈ wsL_law := um_21 (List.mem_of_getElem? (i := 4) rfl)
theorem u21_5 : Cond.codeWith yL_counted cL_counted 8 (some .int) [(0, 16, 19, 13)] ∈ wsL_law := um_21 (List.mem_of_getElem? (i := 5) rfl)
theorem u21_6 : Cond.methodLink RL 65 yX6_counted ∈ wsL_law := um_21 (List.mem_of_getElem? (i := 6) rfl)
theorem u21_7 : Cond.instanceMethod yX6_counted ∈ wsL_law := um_21 (List.mem_of_getElem? (i := 7) rfl)
theorem u21_8 : Cond.selects RX6 yX6_counted yX6_counted ∈ wsL_law := um_21 (List.mem_of_getElem? (i := 8) rfl)
theorem u21_9 : Cond.code yX6_counted cX6_counted 7 (some .int) ∈ wsL_law := um_21 (List.mem_of_getElem? (i := 9) rfl)
theorem u21_10 : Cond.methodLink RX6 232 yX6_countFor ∈ wsL_law := um_21 (List.mem_of_getElem? (i := 10) rfl)
theorem u21_11 : Cond.instanceMethod yX6_countFor ∈ wsL_law := um_21 (List.mem_of_getElem? (i := 11) rfl)
theorem u21_12 : Cond.selects RX6 yX6_countFor yX6_countFor ∈ wsL_law := um_21 (List.mem_of_getElem? (i := 12) rfl)
theorem u21_13 : Cond.code yX6_countFor cX6_countFor 8 (some .int) ∈ wsL_law := um_21 (List.mem_of_getElem? (i := 13) rfl)
theorem u21_14 : Cond.methodLink RX6 285 yX1_countsFor ∈ wsL_law := um_21 (List.mem_of_getElem? (i := 14) rfl)
theorem u21_15 : Cond.instanceMethod yX1_countsFor ∈ wsL_law := um_21 (List.mem_of_getElem? (i := 15) rfl)
theorem u21_16 : Cond.selects RX1 yX1_countsFor yX1_countsFor ∈ wsL_law := um_21 (List.mem_of_getElem? (i := 16) rfl)
theorem u21_17 : Cond.code yX1_countsFor cX1_countsFor 6 (some .boolean) ∈ wsL_law := um_21 (List.mem_of_getElem? (i := 17) rfl)
theorem u21_18 : Cond.methodLink RX1 64 yX4_hasConsent ∈ wsL_law := um_21 (List.mem_of_getElem? (i := 18) rfl)
theorem u21_19 : Cond.instanceMethod yX4_hasConsent ∈ wsL_law := um_21 (List.mem_of_getElem? (i := 19) rfl)
theorem u21_20 : Cond.selects RX4 yX4_hasConsent yX4_hasConsent ∈ wsL_law := um_21 (List.mem_of_getElem? (i := 20) rfl)
theorem u21_21 : Cond.code yX4_hasConsent cX4_hasConsent 4 (some .boolean) ∈ wsL_law := um_21 (List.mem_of_getElem? (i := 21) rfl)
theorem u21_22 : Cond.fieldLink RX4 50 "VisitorLoom$Change" "isGiven" "Z" ∈ wsL_law := um_21 (List.mem_of_getElem? (i := 22) rfl)
theorem u21_23 : Cond.methodLink RL 142 yX7_counted ∈ wsL_law := um_21 (List.mem_of_getElem? (i := 23) rfl)
theorem u22_0 : Cond.instanceMethod yX7_counted ∈ wsL_law := um_22 (List.mem_of_getElem? (i := 0) rfl)
theorem u22_1 : Cond.selects RX7 yX7_counted yX7_counted ∈ wsL_law := um_22 (List.mem_of_getElem? (i := 1) rfl)
theorem u22_2 : Cond.code yX7_counted cX7_counted 6 (some .int) ∈ wsL_law := um_22 (List.mem_of_getElem? (i := 2) rfl)
theorem u22_3 : Cond.methodLink RX7 133 yX7_sum ∈ wsL_law := um_22 (List.mem_of_getElem? (i := 3) rfl)
theorem u22_4 : Cond.instanceMethod yX7_sum ∈ wsL_law := um_22 (List.mem_of_getElem? (i := 4) rfl)
theorem u22_5 : Cond.selects RX7 yX7_sum yX7_sum ∈ wsL_law := um_22 (List.mem_of_getElem? (i := 5) rfl)
theorem u22_6 : Cond.code yX7_sum cX7_sum 9 (some .int) ∈ wsL_law := um_22 (List.mem_of_getElem? (i := 6) rfl)
theorem u22_7 : Cond.methodLink RX7 130 yX7_counts ∈ wsL_law := um_22 (List.mem_of_getElem? (i := 7) rfl)
theorem u22_8 : Cond.instanceMethod yX7_counts ∈ wsL_law := um_22 (List.mem_of_getElem? (i := 8) rfl)
theorem u22_9 : Cond.selects RX7 yX7_counts yX7_counts ∈ wsL_law := um_22 (List.mem_of_getElem? (i := 9) rfl)
theorem u22_10 : Cond.code yX7_counts cX7_counts 8 (some .boolean) ∈ wsL_law := um_22 (List.mem_of_getElem? (i := 10) rfl)
theorem u22_11 : Cond.methodLink RL 143 yL_groups ∈ wsL_law := um_22 (List.mem_of_getElem? (i := 11) rfl)
theorem u22_12 : Cond.static yL_groups ∈ wsL_law := um_22 (List.mem_of_getElem? (i := 12) rfl)
theorem u22_13 : Cond.codeWith yL_groups cL_groups 4 (some .int) [(0, 9, 12, 13)] ∈ wsL_law := um_22 (List.mem_of_getElem? (i := 13) rfl)
theorem u22_14 : Cond.methodLink RL 69 yX6_groups ∈ wsL_law := um_22 (List.mem_of_getElem? (i := 14) rfl)
theorem u22_15 : Cond.instanceMethod yX6_groups ∈ wsL_law := um_22 (List.mem_of_getElem? (i := 15) rfl)
theorem u22_16 : Cond.selects RX6 yX6_groups yX6_groups ∈ wsL_law := um_22 (List.mem_of_getElem? (i := 16) rfl)
theorem u22_17 : Cond.code yX6_groups cX6_groups 5 (some .int) ∈ wsL_law := um_22 (List.mem_of_getElem? (i := 17) rfl)
theorem u22_18 : Cond.fieldLink RX6 236 "VisitorLoom$Group" "purpose" "I" ∈ wsL_law := um_22 (List.mem_of_getElem? (i := 18) rfl)
theorem u22_19 : Cond.fieldLink RX6 239 "VisitorLoom$Group" "kind" "I" ∈ wsL_law := um_22 (List.mem_of_getElem? (i := 19) rfl)
theorem u22_20 : Cond.fieldLink RX6 240 "VisitorLoom$Group" "days" "I" ∈ wsL_law := um_22 (List.mem_of_getElem? (i := 20) rfl)
theorem u22_21 : Cond.fieldLink RX6 243 "VisitorLoom$Group" "least" "I" ∈ wsL_law := um_22 (List.mem_of_getElem? (i := 21) rfl)
theorem u22_22 : Cond.methodLink RL 145 yX7_groups ∈ wsL_law := um_22 (List.mem_of_getElem? (i := 22) rfl)
theorem u22_23 : Cond.instanceMethod yX7_groups ∈ wsL_law := um_22 (List.mem_of_getElem? (i := 23) rfl)
theorem u23_0 : Cond.selects RX7 yX7_groups yX7_groups ∈ wsL_law := um_23 (List.mem_of_getElem? (i := 0) rfl)
theorem u23_1 : Cond.code yX7_groups cX7_groups 4 (some .int) ∈ wsL_law := um_23 (List.mem_of_getElem? (i := 1) rfl)
theorem u23_2 : Cond.methodLink RX7 140 yX7_isMember ∈ wsL_law := um_23 (List.mem_of_getElem? (i := 2) rfl)
theorem u23_3 : Cond.instanceMethod yX7_isMember ∈ wsL_law := um_23 (List.mem_of_getElem? (i := 3) rfl)
theorem u23_4 : Cond.selects RX7 yX7_isMember yX7_isMember ∈ wsL_law := um_23 (List.mem_of_getElem? (i := 4) rfl)
theorem u23_5 : Cond.code yX7_isMember cX7_isMember 3 (some .boolean) ∈ wsL_law := um_23 (List.mem_of_getElem? (i := 5) rfl)
theorem u23_6 : Cond.methodLink RL 146 yX6_tell ∈ wsL_law := um_23 (List.mem_of_getElem? (i := 6) rfl)
theorem u23_7 : Cond.instanceMethod yX6_tell ∈ wsL_law := um_23 (List.mem_of_getElem? (i := 7) rfl)
theorem u23_8 : Cond.selects RX6 yX6_tell yX6_tell ∈ wsL_law := um_23 (List.mem_of_getElem? (i := 8) rfl)
theorem u23_9 : Cond.code yX6_tell cX6_tell 2 (some .int) ∈ wsL_law := um_23 (List.mem_of_getElem? (i := 9) rfl)
theorem u23_10 : Cond.fieldLink RX6 246 "VisitorLoom" "changeCount" "I" ∈ wsL_law := um_23 (List.mem_of_getElem? (i := 10) rfl)
theorem u23_11 : Cond.fieldLink RX6 253 "VisitorLoom" "changeCountInAll" "I" ∈ wsL_law := um_23 (List.mem_of_getElem? (i := 11) rfl)
theorem u23_12 : Cond.methodLink RX6 249 yX6_tellOf ∈ wsL_law := um_23 (List.mem_of_getElem? (i := 12) rfl)
theorem u23_13 : Cond.instanceMethod yX6_tellOf ∈ wsL_law := um_23 (List.mem_of_getElem? (i := 13) rfl)
theorem u23_14 : Cond.selects RX6 yX6_tellOf yX6_tellOf ∈ wsL_law := um_23 (List.mem_of_getElem? (i := 14) rfl)
theorem u23_15 : Cond.code yX6_tellOf cX6_tellOf 7 none ∈ wsL_law := um_23 (List.mem_of_getElem? (i := 15) rfl)
theorem u23_16 : Cond.fieldLink RX6 289 "VisitorLoom$Node" "tally" "I" ∈ wsL_law := um_23 (List.mem_of_getElem? (i := 16) rfl)
theorem u23_17 : Cond.methodLink RX6 292 yX1_owner ∈ wsL_law := um_23 (List.mem_of_getElem? (i := 17) rfl)
theorem u23_18 : Cond.methodLink RX6 295 yX3_wasToldOf ∈ wsL_law := um_23 (List.mem_of_getElem? (i := 18) rfl)
theorem u23_19 : Cond.instanceMethod yX3_wasToldOf ∈ wsL_law := um_23 (List.mem_of_getElem? (i := 19) rfl)
theorem u23_20 : Cond.selects RX3 yX3_wasToldOf yX3_wasToldOf ∈ wsL_law := um_23 (List.mem_of_getElem? (i := 20) rfl)
theorem u23_21 : Cond.code yX3_wasToldOf cX3_wasToldOf 2 (some .boolean) ∈ wsL_law := um_23 (List.mem_of_getElem? (i := 21) rfl)
theorem u23_22 : Cond.fieldLink RX3 25 "VisitorLoom$Group" "toldNodes" "I" ∈ wsL_law := um_23 (List.mem_of_getElem? (i := 22) rfl)
theorem u23_23 : Cond.methodLink RX3 28 yX4_bit ∈ wsL_law := um_23 (List.mem_of_getElem? (i := 23) rfl)
theorem u24_0 : Cond.methodLink RX6 298 yX3_turn ∈ wsL_law := um_24 (List.mem_of_getElem? (i := 0) rfl)
theorem u24_1 : Cond.instanceMethod yX3_turn ∈ wsL_law := um_24 (List.mem_of_getElem? (i := 1) rfl)
theorem u24_2 : Cond.selects RX3 yX3_turn yX3_turn ∈ wsL_law := um_24 (List.mem_of_getElem? (i := 2) rfl)
theorem u24_3 : Cond.code yX3_turn cX3_turn 2 none ∈ wsL_law := um_24 (List.mem_of_getElem? (i := 3) rfl)
theorem u24_4 : Cond.methodLink RX6 301 yX6_keepChange ∈ wsL_law := um_24 (List.mem_of_getElem? (i := 4) rfl)
theorem u24_5 : Cond.instanceMethod yX6_keepChange ∈ wsL_law := um_24 (List.mem_of_getElem? (i := 5) rfl)
theorem u24_6 : Cond.selects RX6 yX6_keepChange yX6_keepChange ∈ wsL_law := um_24 (List.mem_of_getElem? (i := 6) rfl)
theorem u24_7 : Cond.code yX6_keepChange cX6_keepChange 2 none ∈ wsL_law := um_24 (List.mem_of_getElem? (i := 7) rfl)
theorem u24_8 : Cond.methodLink RL 149 yX7_tell ∈ wsL_law := um_24 (List.mem_of_getElem? (i := 8) rfl)
theorem u24_9 : Cond.instanceMethod yX7_tell ∈ wsL_law := um_24 (List.mem_of_getElem? (i := 9) rfl)
theorem u24_10 : Cond.selects RX7 yX7_tell yX7_tell ∈ wsL_law := um_24 (List.mem_of_getElem? (i := 10) rfl)
theorem u24_11 : Cond.code yX7_tell cX7_tell 5 (some .int) ∈ wsL_law := um_24 (List.mem_of_getElem? (i := 11) rfl)
theorem u24_12 : Cond.fieldLink RX7 143 "VisitorLoomModel" "told" "I" ∈ wsL_law := um_24 (List.mem_of_getElem? (i := 12) rfl)
theorem u24_13 : Cond.fieldLink RX7 146 "VisitorLoomModel" "toldInAll" "I" ∈ wsL_law := um_24 (List.mem_of_getElem? (i := 13) rfl)
theorem u24_14 : Cond.methodLink RL 150 yL_told ∈ wsL_law := um_24 (List.mem_of_getElem? (i := 14) rfl)
theorem u24_15 : Cond.static yL_told ∈ wsL_law := um_24 (List.mem_of_getElem? (i := 15) rfl)
theorem u24_16 : Cond.codeWith yL_told cL_told 4 (some .int) [(0, 9, 12, 56)] ∈ wsL_law := um_24 (List.mem_of_getElem? (i := 16) rfl)
theorem u24_17 : Cond.methodLink RL 72 yX6_told ∈ wsL_law := um_24 (List.mem_of_getElem? (i := 17) rfl)
theorem u24_18 : Cond.instanceMethod yX6_told ∈ wsL_law := um_24 (List.mem_of_getElem? (i := 18) rfl)
theorem u24_19 : Cond.selects RX6 yX6_told yX6_told ∈ wsL_law := um_24 (List.mem_of_getElem? (i := 19) rfl)
theorem u24_20 : Cond.code yX6_told cX6_told 2 (some .int) ∈ wsL_law := um_24 (List.mem_of_getElem? (i := 20) rfl)
theorem u24_21 : Cond.methodLink RL 152 yX7_told ∈ wsL_law := um_24 (List.mem_of_getElem? (i := 21) rfl)
theorem u24_22 : Cond.instanceMethod yX7_told ∈ wsL_law := um_24 (List.mem_of_getElem? (i := 22) rfl)
theorem u24_23 : Cond.selects RX7 yX7_told yX7_told ∈ wsL_law := um_24 (List.mem_of_getElem? (i := 23) rfl)
theorem u25_0 : Cond.code yX7_told cX7_told 2 (some .int) ∈ wsL_law := um_25 (List.mem_of_getElem? (i := 0) rfl)
theorem u25_1 : Cond.methodLink RL 153 yX6_toldInAll ∈ wsL_law := um_25 (List.mem_of_getElem? (i := 1) rfl)
theorem u25_2 : Cond.instanceMethod yX6_toldInAll ∈ wsL_law := um_25 (List.mem_of_getElem? (i := 2) rfl)
theorem u25_3 : Cond.selects RX6 yX6_toldInAll yX6_toldInAll ∈ wsL_law := um_25 (List.mem_of_getElem? (i := 3) rfl)
theorem u25_4 : Cond.code yX6_toldInAll cX6_toldInAll 1 (some .int) ∈ wsL_law := um_25 (List.mem_of_getElem? (i := 4) rfl)
theorem u25_5 : Cond.methodLink RL 156 yX7_toldInAll ∈ wsL_law := um_25 (List.mem_of_getElem? (i := 5) rfl)
theorem u25_6 : Cond.instanceMethod yX7_toldInAll ∈ wsL_law := um_25 (List.mem_of_getElem? (i := 6) rfl)
theorem u25_7 : Cond.selects RX7 yX7_toldInAll yX7_toldInAll ∈ wsL_law := um_25 (List.mem_of_getElem? (i := 7) rfl)
theorem u25_8 : Cond.code yX7_toldInAll cX7_toldInAll 1 (some .int) ∈ wsL_law := um_25 (List.mem_of_getElem? (i := 8) rfl)
theorem ug_0 : ∀ w ∈ wsL_law0_r1, goodWord w = true := List.all_eq_true.mp (by decide +kernel)
theorem ug_1 : ∀ w ∈ wsL_law0_r2, goodWord w = true := List.all_eq_true.mp (by decide +kernel)
theorem ug_2 : ∀ w ∈ wsL_law0_r3, goodWord w = true := List.all_eq_true.mp (by decide +kernel)
theorem ug_3 : ∀ w ∈ wsL_law0_r4, goodWord w = true := List.all_eq_true.mp (by decide +kernel)
theorem ug_4 : ∀ w ∈ wsL_law0_r5, goodWord w = true := List.all_eq_true.mp (by decide +kernel)
theorem ug_5 : ∀ w ∈ wsL_law0_r6, goodWord w = true := List.all_eq_true.mp (by decide +kernel)
theorem ug_6 : ∀ w ∈ wsL_law0_r7, goodWord w = true := List.all_eq_true.mp (by decide +kernel)
theorem ug_7 : ∀ w ∈ wsL_law0_r8, goodWord w = true := List.all_eq_true.mp (by decide +kernel)
theorem ug_8 : ∀ w ∈ wsL_law0_r9, goodWord w = true := List.all_eq_true.mp (by decide +kernel)
theorem ug_9 : ∀ w ∈ wsL_law0_r10, goodWord w = true := List.all_eq_true.mp (by decide +kernel)
theorem ug_10 : ∀ w ∈ wsL_law0_r11, goodWord w = true := List.all_eq_true.mp (by decide +kernel)
theorem ug_11 : ∀ w ∈ wsL_law0_r12, goodWord w = true := List.all_eq_true.mp (by decide +kernel)
theorem ug_12 : ∀ w ∈ wsL_law0_r13, goodWord w = true := List.all_eq_true.mp (by decide +kernel)
theorem ug_13 : ∀ w ∈ wsL_law0_r14, goodWord w = true := List.all_eq_true.mp (by decide +kernel)
theorem ug_14 : ∀ w ∈ wsL_law0_r15, goodWord w = true := List.all_eq_true.mp (by decide +kernel)
theorem ug_15 : ∀ w ∈ wsL_law0_r16, goodWord w = true := List.all_eq_true.mp (by decide +kernel)
theorem ug_16 : ∀ w ∈ wsL_law0_r17, goodWord w = true := List.all_eq_true.mp (by decide +kernel)
theorem ug_17 : ∀ w ∈ wsL_law0_r18, goodWord w = true := List.all_eq_true.mp (by decide +kernel)
theorem ug_18 : ∀ w ∈ wsL_law0_r19, goodWord w = true := List.all_eq_true.mp (by decide +kernel)
theorem ug_19 : ∀ w ∈ wsL_law0_r20, goodWord w = true := List.all_eq_true.mp (by decide +kernel)
theorem ug_20 : ∀ w ∈ wsL_law0_r21, goodWord w = true := List.all_eq_true.mp (by decide +kernel)
theorem ug_21 : ∀ w ∈ wsL_law0_r22, goodWord w = true := List.all_eq_true.mp (by decide +kernel)
theorem ug_22 : ∀ w ∈ wsL_law0_r23, goodWord w = true := List.all_eq_true.mp (by decide +kernel)
theorem ug_23 : ∀ w ∈ wsL_law0_r24, goodWord w = true := List.all_eq_true.mp (by decide +kernel)
theorem ug_24 : ∀ w ∈ wsL_law0_r25, goodWord w = true := List.all_eq_true.mp (by decide +kernel)
theorem ug_25 : ∀ w ∈ wsL_law0_r26, goodWord w = true := List.all_eq_true.mp (by decide +kernel)
theorem ug_wsX00 : ∀ w ∈ wsX00, goodWord w = true := List.all_eq_true.mp (by decide +kernel)
theorem ug_wsX10 : ∀ w ∈ wsX10, goodWord w = true := List.all_eq_true.mp (by decide +kernel)
theorem ug_wsX20 : ∀ w ∈ wsX20, goodWord w = true := List.all_eq_true.mp (by decide +kernel)
theorem ug_wsX30 : ∀ w ∈ wsX30, goodWord w = true := List.all_eq_true.mp (by decide +kernel)
theorem ug_wsX40 : ∀ w ∈ wsX40, goodWord w = true := List.all_eq_true.mp (by decide +kernel)
theorem ug_wsX50 : ∀ w ∈ wsX50, goodWord w = true := List.all_eq_true.mp (by decide +kernel)
theorem ug_wsX60 : ∀ w ∈ wsX60, goodWord w = true := List.all_eq_true.mp (by decide +kernel)
theorem ug_wsX70 : ∀ w ∈ wsX70, goodWord w = true := List.all_eq_true.mp (by decide +kernel)
theorem ugood1 : ∀ w ∈ wsL_law, goodWord w = true := List.forall_mem_append.mpr ⟨List.forall_mem_append.mpr ⟨List.forall_mem_append.mpr ⟨List.forall_mem_append.mpr ⟨List.forall_mem_append.mpr ⟨List.forall_mem_append.mpr ⟨List.forall_mem_append.mpr ⟨List.forall_mem_append.mpr ⟨List.forall_mem_append.mpr ⟨List.forall_mem_append.mpr ⟨List.forall_mem_append.mpr ⟨List.forall_mem_append.mpr ⟨List.forall_mem_append.mpr ⟨ug_0, List.forall_mem_append.mpr ⟨ug_1, List.forall_mem_append.mpr ⟨ug_2, List.forall_mem_append.mpr ⟨ug_3, List.forall_mem_append.mpr ⟨ug_4, List.forall_mem_append.mpr ⟨ug_5, List.forall_mem_append.mpr ⟨ug_6, List.forall_mem_append.mpr ⟨ug_7, List.forall_mem_append.mpr ⟨ug_8, List.forall_mem_append.mpr ⟨ug_9, List.forall_mem_append.mpr ⟨ug_10, List.forall_mem_append.mpr ⟨ug_11, List.forall_mem_append.mpr ⟨ug_12, List.forall_mem_append.mpr ⟨ug_13, List.forall_mem_append.mpr ⟨ug_14, List.forall_mem_append.mpr ⟨ug_15, List.forall_mem_append.mpr ⟨ug_16, List.forall_mem_append.mpr ⟨ug_17, List.forall_mem_append.mpr ⟨ug_18, List.forall_mem_append.mpr ⟨ug_19, List.forall_mem_append.mpr ⟨ug_20, List.forall_mem_append.mpr ⟨ug_21, List.forall_mem_append.mpr ⟨ug_22, List.forall_mem_append.mpr ⟨ug_23, List.forall_mem_append.mpr ⟨ug_24, ug_25⟩⟩⟩⟩⟩⟩⟩⟩⟩⟩⟩⟩⟩⟩⟩⟩⟩⟩⟩⟩⟩⟩⟩⟩⟩, ug_wsX60⟩, ug_wsX70⟩, ug_wsX40⟩, ug_wsX20⟩, ug_wsX50⟩, ug_wsX10⟩, ug_wsX00⟩, ug_wsX30⟩, fun _ h => absurd h List.not_mem_nil⟩, fun _ h => (List.mem_filter.mp h).2⟩, fun _ h => (List.mem_filter.mp h).2⟩, fun _ h => (List.mem_filter.mp h).2⟩
theorem ugood : GoodIn wsL_law wsL_law := fun w h => ⟨h, good_of_word (ugood1 w h)⟩
def CB (y : MethodName) (b : ByteArray) (maxL : Nat) (rt : Option FieldType) (np : Nat) : Prop := Cond.code y b maxL rt ∈ wsL_law ∧ Cond.initialized y.cls ∈ wsL_law ∧ (y.cls ≠ "java/lang/invoke/MethodHandle" ∧ y.cls ≠ "java/lang/invoke/VarHandle" ∧ (parseMethodDescriptor y.desc).map (fun d => d.parameters.length) = some np)
def CV (y : MethodName) : Prop := Cond.instanceMethod y ∈ wsL_law ∧ Cond.selects y.cls y y ∈ wsL_law
theorem cb_X0_init : CB yX0_init cX0_init 4 none 3 := ⟨u11_10, u11_7, by decide +kernel⟩
theorem cb_X1_init : CB yX1_init cX1_init 8 none 7 := ⟨u4_13, u3_15, by decide +kernel⟩
theorem cb_X1_minute : CB yX1_minute cX1_minute 1 (some .int) 0 := ⟨u5_12, u3_15, by decide +kernel⟩
theorem cv_X1_minute : CV yX1_minute := ⟨u5_10, u5_11⟩
theorem cb_X1_isBefore : CB yX1_isBefore cX1_isBefore 4 (some .boolean) 1 := ⟨u5_8, u3_15, by decide +kernel⟩
theorem cv_X1_isBefore : CV yX1_isBefore := ⟨u5_6, u5_7⟩
theorem cb_X1_linkedAccount : CB yX1_linkedAccount cX1_linkedAccount 1 (some (.object "VisitorLoom$Node")) 0 := ⟨u6_2, u3_15, by decide +kernel⟩
theorem cv_X1_linkedAccount : CV yX1_linkedAccount := ⟨u6_0, u6_1⟩
theorem cb_X1_owner : CB yX1_owner cX1_owner 1 (some (.object "VisitorLoom$Node")) 0 := ⟨u14_1, u3_15, by decide +kernel⟩
theorem cv_X1_owner : CV yX1_owner := ⟨u13_23, u14_0⟩
theorem cb_X1_isOf : CB yX1_isOf cX1_isOf 2 (some .boolean) 1 := ⟨u13_21, u3_15, by decide +kernel⟩
theorem cv_X1_isOf : CV yX1_isOf := ⟨u13_19, u13_20⟩
theorem cb_X1_countsFor : CB yX1_countsFor cX1_countsFor 6 (some .boolean) 4 := ⟨u21_17, u3_15, by decide +kernel⟩
theorem cv_X1_countsFor : CV yX1_countsFor := ⟨u21_15, u21_16⟩
theorem cb_X2_init : CB yX2_init cX2_init 1 none 0 := ⟨u1_14, u0_21, by decide +kernel⟩
theorem cb_X2_put : CB yX2_put cX2_put 4 none 1 := ⟨u5_1, u0_21, by decide +kernel⟩
theorem cv_X2_put : CV yX2_put := ⟨u4_23, u5_0⟩
theorem cb_X2_putEach : CB yX2_putEach cX2_putEach 4 none 1 := ⟨u8_12, u0_21, by decide +kernel⟩
theorem cv_X2_putEach : CV yX2_putEach := ⟨u8_10, u8_11⟩
theorem cb_X2_takeMarked : CB yX2_takeMarked cX2_takeMarked 5 (some (.object "VisitorLoom$Event")) 0 := ⟨u8_7, u0_21, by decide +kernel⟩
theorem cv_X2_takeMarked : CV yX2_takeMarked := ⟨u8_5, u8_6⟩
theorem cb_X3_init : CB yX3_init cX3_init 6 none 5 := ⟨u12_19, u12_9, by decide +kernel⟩
theorem cb_X3_wasToldOf : CB yX3_wasToldOf cX3_wasToldOf 2 (some .boolean) 1 := ⟨u23_21, u12_9, by decide +kernel⟩
theorem cv_X3_wasToldOf : CV yX3_wasToldOf := ⟨u23_19, u23_20⟩
theorem cb_X3_turn : CB yX3_turn cX3_turn 2 none 1 := ⟨u24_3, u12_9, by decide +kernel⟩
theorem cv_X3_turn : CV yX3_turn := ⟨u24_1, u24_2⟩
theorem cb_X4_init : CB yX4_init cX4_init 2 none 1 := ⟨u1_8, u0_16, by decide +kernel⟩
theorem cb_X4_lowest : CB yX4_lowest cX4_lowest 1 (some (.object "VisitorLoom$Node")) 0 := ⟨u6_16, u0_16, by decide +kernel⟩
theorem cv_X4_lowest : CV yX4_lowest := ⟨u6_14, u6_15⟩
theorem cb_X4_standAlone : CB yX4_standAlone cX4_standAlone 1 none 0 := ⟨u9_9, u0_16, by decide +kernel⟩
theorem cv_X4_standAlone : CV yX4_standAlone := ⟨u9_7, u9_8⟩
theorem cb_X4_joinTo : CB yX4_joinTo cX4_joinTo 2 none 1 := ⟨u7_2, u0_16, by decide +kernel⟩
theorem cv_X4_joinTo : CV yX4_joinTo := ⟨u7_0, u7_1⟩
theorem cb_X4_mayLink : CB yX4_mayLink cX4_mayLink 2 (some .boolean) 1 := ⟨u6_7, u0_16, by decide +kernel⟩
theorem cv_X4_mayLink : CV yX4_mayLink := ⟨u6_5, u6_6⟩
theorem cb_X4_setMayLink : CB yX4_setMayLink cX4_setMayLink 3 none 2 := ⟨u10_1, u0_16, by decide +kernel⟩
theorem cv_X4_setMayLink : CV yX4_setMayLink := ⟨u9_23, u10_0⟩
theorem cb_X4_bit : CB yX4_bit cX4_bit 1 (some .int) 0 := ⟨u6_12, u0_16, by decide +kernel⟩
theorem cv_X4_bit : CV yX4_bit := ⟨u6_10, u6_11⟩
theorem cb_X4_changesFor : CB yX4_changesFor cX4_changesFor 4 (some .int) 1 := ⟨u10_19, u0_16, by decide +kernel⟩
theorem cv_X4_changesFor : CV yX4_changesFor := ⟨u10_17, u10_18⟩
theorem cb_X4_addChange : CB yX4_addChange cX4_addChange 7 none 3 := ⟨u11_4, u0_16, by decide +kernel⟩
theorem cv_X4_addChange : CV yX4_addChange := ⟨u11_2, u11_3⟩
theorem cb_X4_hasConsent : CB yX4_hasConsent cX4_hasConsent 4 (some .boolean) 2 := ⟨u21_21, u0_16, by decide +kernel⟩
theorem cv_X4_hasConsent : CV yX4_hasConsent := ⟨u21_19, u21_20⟩
theorem cb_X4_clearChanges : CB yX4_clearChanges cX4_clearChanges 2 none 0 := ⟨u14_6, u0_16, by decide +kernel⟩
theorem cv_X4_clearChanges : CV yX4_clearChanges := ⟨u14_4, u14_5⟩
theorem cb_X4_latestChange : CB yX4_latestChange cX4_latestChange 2 (some (.object "VisitorLoom$Change")) 1 := ⟨u11_0, u0_16, by decide +kernel⟩
theorem cv_X4_latestChange : CV yX4_latestChange := ⟨u10_22, u10_23⟩
theorem cb_X5_init : CB yX5_init cX5_init 1 none 0 := ⟨u1_17, u1_1, by decide +kernel⟩
theorem cb_X5_restart : CB yX5_restart cX5_restart 1 none 0 := ⟨u19_4, u1_1, by decide +kernel⟩
theorem cv_X5_restart : CV yX5_restart := ⟨u19_2, u19_3⟩
theorem cb_X5_isCutBy : CB yX5_isCutBy cX5_isCutBy 3 (some .boolean) 1 := ⟨u19_9, u1_1, by decide +kernel⟩
theorem cv_X5_isCutBy : CV yX5_isCutBy := ⟨u19_7, u19_8⟩
theorem cb_X5_begin : CB yX5_begin cX5_begin 2 none 1 := ⟨u19_17, u1_1, by decide +kernel⟩
theorem cv_X5_begin : CV yX5_begin := ⟨u19_15, u19_16⟩
theorem cb_X5_add : CB yX5_add cX5_add 2 none 1 := ⟨u19_23, u1_1, by decide +kernel⟩
theorem cv_X5_add : CV yX5_add := ⟨u19_21, u19_22⟩
theorem cb_X6_init : CB yX6_init cX6_init 2 none 0 := ⟨u0_9, u0_2, by decide +kernel⟩
theorem cb_X6_event : CB yX6_event cX6_event 10 (some .boolean) 6 := ⟨u3_7, u0_2, by decide +kernel⟩
theorem cv_X6_event : CV yX6_event := ⟨u3_5, u3_6⟩
theorem cb_X6_skew : CB yX6_skew cX6_skew 6 (some .int) 2 := ⟨u7_23, u0_2, by decide +kernel⟩
theorem cv_X6_skew : CV yX6_skew := ⟨u7_21, u7_22⟩
theorem cb_X6_share : CB yX6_share cX6_share 5 (some .boolean) 2 := ⟨u9_0, u0_2, by decide +kernel⟩
theorem cv_X6_share : CV yX6_share := ⟨u8_22, u8_23⟩
theorem cb_X6_link : CB yX6_link cX6_link 7 (some .boolean) 3 := ⟨u9_20, u0_2, by decide +kernel⟩
theorem cv_X6_link : CV yX6_link := ⟨u9_18, u9_19⟩
theorem cb_X6_consent : CB yX6_consent cX6_consent 7 (some .int) 4 := ⟨u10_12, u0_2, by decide +kernel⟩
theorem cv_X6_consent : CV yX6_consent := ⟨u10_10, u10_11⟩
theorem cb_X6_group : CB yX6_group cX6_group 6 (some .int) 4 := ⟨u12_5, u0_2, by decide +kernel⟩
theorem cv_X6_group : CV yX6_group := ⟨u12_3, u12_4⟩
theorem cb_X6_forget : CB yX6_forget cX6_forget 8 (some .int) 1 := ⟨u13_13, u0_2, by decide +kernel⟩
theorem cv_X6_forget : CV yX6_forget := ⟨u13_11, u13_12⟩
theorem cb_X6_pass : CB yX6_pass cX6_pass 2 (some .int) 1 := ⟨u15_9, u0_2, by decide +kernel⟩
theorem cv_X6_pass : CV yX6_pass := ⟨u15_7, u15_8⟩
theorem cb_X6_profile : CB yX6_profile cX6_profile 2 (some .int) 1 := ⟨u15_20, u0_2, by decide +kernel⟩
theorem cv_X6_profile : CV yX6_profile := ⟨u15_18, u15_19⟩
theorem cb_X6_profileAnew : CB yX6_profileAnew cX6_profileAnew 3 (some .int) 1 := ⟨u16_7, u0_2, by decide +kernel⟩
theorem cv_X6_profileAnew : CV yX6_profileAnew := ⟨u16_5, u16_6⟩
theorem cb_X6_events : CB yX6_events cX6_events 7 (some .int) 2 := ⟨u16_19, u0_2, by decide +kernel⟩
theorem cv_X6_events : CV yX6_events := ⟨u16_17, u16_18⟩
theorem cb_X6_eventAt : CB yX6_eventAt cX6_eventAt 6 (some .int) 2 := ⟨u17_8, u0_2, by decide +kernel⟩
theorem cv_X6_eventAt : CV yX6_eventAt := ⟨u17_6, u17_7⟩
theorem cb_X6_time : CB yX6_time cX6_time 3 (some .int) 1 := ⟨u18_7, u0_2, by decide +kernel⟩
theorem cv_X6_time : CV yX6_time := ⟨u18_5, u18_6⟩
theorem cb_X6_sessions : CB yX6_sessions cX6_sessions 2 (some .int) 1 := ⟨u18_19, u0_2, by decide +kernel⟩
theorem cv_X6_sessions : CV yX6_sessions := ⟨u18_17, u18_18⟩
theorem cb_X6_session : CB yX6_session cX6_session 5 (some .int) 3 := ⟨u20_18, u0_2, by decide +kernel⟩
theorem cv_X6_session : CV yX6_session := ⟨u20_16, u20_17⟩
theorem cb_X6_counted : CB yX6_counted cX6_counted 7 (some .int) 5 := ⟨u21_9, u0_2, by decide +kernel⟩
theorem cv_X6_counted : CV yX6_counted := ⟨u21_7, u21_8⟩
theorem cb_X6_groups : CB yX6_groups cX6_groups 5 (some .int) 1 := ⟨u22_17, u0_2, by decide +kernel⟩
theorem cv_X6_groups : CV yX6_groups := ⟨u22_15, u22_16⟩
theorem cb_X6_tell : CB yX6_tell cX6_tell 2 (some .int) 0 := ⟨u23_9, u0_2, by decide +kernel⟩
theorem cv_X6_tell : CV yX6_tell := ⟨u23_7, u23_8⟩
theorem cb_X6_told : CB yX6_told cX6_told 2 (some .int) 1 := ⟨u24_20, u0_2, by decide +kernel⟩
theorem cv_X6_told : CV yX6_told := ⟨u24_18, u24_19⟩
theorem cb_X6_toldInAll : CB yX6_toldInAll cX6_toldInAll 1 (some .int) 0 := ⟨u25_4, u0_2, by decide +kernel⟩
theorem cv_X6_toldInAll : CV yX6_toldInAll := ⟨u25_2, u25_3⟩
theorem cb_X6_nodeAt : CB yX6_nodeAt cX6_nodeAt 2 (some (.object "VisitorLoom$Node")) 1 := ⟨u3_23, u0_2, by decide +kernel⟩
theorem cv_X6_nodeAt : CV yX6_nodeAt := ⟨u3_21, u3_22⟩
theorem cb_X6_accountAt : CB yX6_accountAt cX6_accountAt 2 (some (.object "VisitorLoom$Node")) 1 := ⟨u4_3, u0_2, by decide +kernel⟩
theorem cv_X6_accountAt : CV yX6_accountAt := ⟨u4_1, u4_2⟩
theorem cb_X6_deviceAt : CB yX6_deviceAt cX6_deviceAt 2 (some (.object "VisitorLoom$Node")) 1 := ⟨u3_19, u0_2, by decide +kernel⟩
theorem cv_X6_deviceAt : CV yX6_deviceAt := ⟨u3_17, u3_18⟩
theorem cb_X6_neededNode : CB yX6_neededNode cX6_neededNode 3 (some (.object "VisitorLoom$Node")) 1 := ⟨u13_17, u0_2, by decide +kernel⟩
theorem cv_X6_neededNode : CV yX6_neededNode := ⟨u13_15, u13_16⟩
theorem cb_X6_isKind : CB yX6_isKind cX6_isKind 1 (some .boolean) 1 := ⟨u4_6, u0_2, by decide +kernel⟩
theorem cb_X6_isPurpose : CB yX6_isPurpose cX6_isPurpose 1 (some .boolean) 1 := ⟨u10_15, u0_2, by decide +kernel⟩
theorem cb_X6_isMinute : CB yX6_isMinute cX6_isMinute 1 (some .boolean) 1 := ⟨u4_9, u0_2, by decide +kernel⟩
theorem cb_X6_areDays : CB yX6_areDays cX6_areDays 1 (some .boolean) 1 := ⟨u12_16, u0_2, by decide +kernel⟩
theorem cb_X6_findProfiles : CB yX6_findProfiles cX6_findProfiles 5 none 0 := ⟨u9_5, u0_2, by decide +kernel⟩
theorem cv_X6_findProfiles : CV yX6_findProfiles := ⟨u9_3, u9_4⟩
theorem cb_X6_joinBy : CB yX6_joinBy cX6_joinBy 3 none 1 := ⟨u5_21, u0_2, by decide +kernel⟩
theorem cv_X6_joinBy : CV yX6_joinBy := ⟨u5_19, u5_20⟩
theorem cb_X6_join : CB yX6_join cX6_join 9 none 2 := ⟨u6_21, u0_2, by decide +kernel⟩
theorem cv_X6_join : CV yX6_join := ⟨u6_19, u6_20⟩
theorem cb_X6_cutUpTo : CB yX6_cutUpTo cX6_cutUpTo 5 none 2 := ⟨u19_0, u0_2, by decide +kernel⟩
theorem cv_X6_cutUpTo : CV yX6_cutUpTo := ⟨u18_22, u18_23⟩
theorem cb_X6_countFor : CB yX6_countFor cX6_countFor 8 (some .int) 5 := ⟨u21_13, u0_2, by decide +kernel⟩
theorem cv_X6_countFor : CV yX6_countFor := ⟨u21_11, u21_12⟩
theorem cb_X6_tellOf : CB yX6_tellOf cX6_tellOf 7 none 1 := ⟨u23_15, u0_2, by decide +kernel⟩
theorem cv_X6_tellOf : CV yX6_tellOf := ⟨u23_13, u23_14⟩
theorem cb_X6_keepChange : CB yX6_keepChange cX6_keepChange 2 none 1 := ⟨u24_7, u0_2, by decide +kernel⟩
theorem cv_X6_keepChange : CV yX6_keepChange := ⟨u24_5, u24_6⟩
theorem cb_X7_init : CB yX7_init cX7_init 1 none 0 := ⟨u1_21, u0_5, by decide +kernel⟩
theorem cb_X7_thrown : CB yX7_thrown cX7_thrown 1 (some .int) 0 := ⟨u7_16, u0_5, by decide +kernel⟩
theorem cv_X7_thrown : CV yX7_thrown := ⟨u7_14, u7_15⟩
theorem cb_X7_isIn : CB yX7_isIn cX7_isIn 3 (some .boolean) 3 := ⟨u7_12, u0_5, by decide +kernel⟩
theorem cb_X7_timeOf : CB yX7_timeOf cX7_timeOf 3 (some .int) 1 := ⟨u18_3, u0_5, by decide +kernel⟩
theorem cv_X7_timeOf : CV yX7_timeOf := ⟨u18_1, u18_2⟩
theorem cb_X7_event : CB yX7_event cX7_event 8 (some .boolean) 6 := ⟨u7_6, u0_5, by decide +kernel⟩
theorem cv_X7_event : CV yX7_event := ⟨u7_4, u7_5⟩
theorem cb_X7_skew : CB yX7_skew cX7_skew 4 (some .int) 2 := ⟨u8_17, u0_5, by decide +kernel⟩
theorem cv_X7_skew : CV yX7_skew := ⟨u8_15, u8_16⟩
theorem cb_X7_share : CB yX7_share cX7_share 4 (some .boolean) 2 := ⟨u9_13, u0_5, by decide +kernel⟩
theorem cv_X7_share : CV yX7_share := ⟨u9_11, u9_12⟩
theorem cb_X7_link : CB yX7_link cX7_link 5 (some .boolean) 3 := ⟨u10_5, u0_5, by decide +kernel⟩
theorem cv_X7_link : CV yX7_link := ⟨u10_3, u10_4⟩
theorem cb_X7_links : CB yX7_links cX7_links 2 (some .boolean) 1 := ⟨u14_18, u0_5, by decide +kernel⟩
theorem cv_X7_links : CV yX7_links := ⟨u14_16, u14_17⟩
theorem cb_X7_finds : CB yX7_finds cX7_finds 6 none 0 := ⟨u14_14, u0_5, by decide +kernel⟩
theorem cv_X7_finds : CV yX7_finds := ⟨u14_12, u14_13⟩
theorem cb_X7_nodeOf : CB yX7_nodeOf cX7_nodeOf 2 (some .int) 1 := ⟨u15_2, u0_5, by decide +kernel⟩
theorem cv_X7_nodeOf : CV yX7_nodeOf := ⟨u15_0, u15_1⟩
theorem cb_X7_belongs : CB yX7_belongs cX7_belongs 3 (some .boolean) 2 := ⟨u14_22, u0_5, by decide +kernel⟩
theorem cv_X7_belongs : CV yX7_belongs := ⟨u14_20, u14_21⟩
theorem cb_X7_isNode : CB yX7_isNode cX7_isNode 2 (some .boolean) 1 := ⟨u11_22, u0_5, by decide +kernel⟩
theorem cv_X7_isNode : CV yX7_isNode := ⟨u11_20, u11_21⟩
theorem cb_X7_profile : CB yX7_profile cX7_profile 2 (some .int) 1 := ⟨u16_0, u0_5, by decide +kernel⟩
theorem cv_X7_profile : CV yX7_profile := ⟨u15_22, u15_23⟩
theorem cb_X7_profileAnew : CB yX7_profileAnew cX7_profileAnew 2 (some .int) 1 := ⟨u16_11, u0_5, by decide +kernel⟩
theorem cv_X7_profileAnew : CV yX7_profileAnew := ⟨u16_9, u16_10⟩
theorem cb_X7_isAhead : CB yX7_isAhead cX7_isAhead 3 (some .boolean) 2 := ⟨u17_23, u0_5, by decide +kernel⟩
theorem cv_X7_isAhead : CV yX7_isAhead := ⟨u17_21, u17_22⟩
theorem cb_X7_behind : CB yX7_behind cX7_behind 6 (some .int) 2 := ⟨u17_19, u0_5, by decide +kernel⟩
theorem cv_X7_behind : CV yX7_behind := ⟨u17_17, u17_18⟩
theorem cb_X7_events : CB yX7_events cX7_events 5 (some .int) 2 := ⟨u17_0, u0_5, by decide +kernel⟩
theorem cv_X7_events : CV yX7_events := ⟨u16_22, u16_23⟩
theorem cb_X7_eventAt : CB yX7_eventAt cX7_eventAt 5 (some .int) 2 := ⟨u17_15, u0_5, by decide +kernel⟩
theorem cv_X7_eventAt : CV yX7_eventAt := ⟨u17_13, u17_14⟩
theorem cb_X7_time : CB yX7_time cX7_time 4 (some .int) 1 := ⟨u18_12, u0_5, by decide +kernel⟩
theorem cv_X7_time : CV yX7_time := ⟨u18_10, u18_11⟩
theorem cb_X7_cuts : CB yX7_cuts cX7_cuts 5 (some .boolean) 3 := ⟨u20_11, u0_5, by decide +kernel⟩
theorem cv_X7_cuts : CV yX7_cuts := ⟨u20_9, u20_10⟩
theorem cb_X7_goes : CB yX7_goes cX7_goes 11 (some .int) 3 := ⟨u20_7, u0_5, by decide +kernel⟩
theorem cv_X7_goes : CV yX7_goes := ⟨u20_5, u20_6⟩
theorem cb_X7_sessions : CB yX7_sessions cX7_sessions 2 (some .int) 1 := ⟨u20_3, u0_5, by decide +kernel⟩
theorem cv_X7_sessions : CV yX7_sessions := ⟨u20_1, u20_2⟩
theorem cb_X7_session : CB yX7_session cX7_session 5 (some .int) 3 := ⟨u21_2, u0_5, by decide +kernel⟩
theorem cv_X7_session : CV yX7_session := ⟨u21_0, u21_1⟩
theorem cb_X7_consent : CB yX7_consent cX7_consent 6 (some .int) 4 := ⟨u11_18, u0_5, by decide +kernel⟩
theorem cv_X7_consent : CV yX7_consent := ⟨u11_16, u11_17⟩
theorem cb_X7_counts : CB yX7_counts cX7_counts 8 (some .boolean) 2 := ⟨u22_10, u0_5, by decide +kernel⟩
theorem cv_X7_counts : CV yX7_counts := ⟨u22_8, u22_9⟩
theorem cb_X7_sum : CB yX7_sum cX7_sum 9 (some .int) 5 := ⟨u22_6, u0_5, by decide +kernel⟩
theorem cv_X7_sum : CV yX7_sum := ⟨u22_4, u22_5⟩
theorem cb_X7_counted : CB yX7_counted cX7_counted 6 (some .int) 5 := ⟨u22_2, u0_5, by decide +kernel⟩
theorem cv_X7_counted : CV yX7_counted := ⟨u22_0, u22_1⟩
theorem cb_X7_group : CB yX7_group cX7_group 6 (some .int) 4 := ⟨u13_5, u0_5, by decide +kernel⟩
theorem cv_X7_group : CV yX7_group := ⟨u13_3, u13_4⟩
theorem cb_X7_isMember : CB yX7_isMember cX7_isMember 3 (some .boolean) 2 := ⟨u23_5, u0_5, by decide +kernel⟩
theorem cv_X7_isMember : CV yX7_isMember := ⟨u23_3, u23_4⟩
theorem cb_X7_groups : CB yX7_groups cX7_groups 4 (some .int) 1 := ⟨u23_1, u0_5, by decide +kernel⟩
theorem cv_X7_groups : CV yX7_groups := ⟨u22_23, u23_0⟩
theorem cb_X7_tell : CB yX7_tell cX7_tell 5 (some .int) 0 := ⟨u24_11, u0_5, by decide +kernel⟩
theorem cv_X7_tell : CV yX7_tell := ⟨u24_9, u24_10⟩
theorem cb_X7_told : CB yX7_told cX7_told 2 (some .int) 1 := ⟨u25_0, u0_5, by decide +kernel⟩
theorem cv_X7_told : CV yX7_told := ⟨u24_22, u24_23⟩
theorem cb_X7_toldInAll : CB yX7_toldInAll cX7_toldInAll 1 (some .int) 0 := ⟨u25_8, u0_5, by decide +kernel⟩
theorem cv_X7_toldInAll : CV yX7_toldInAll := ⟨u25_6, u25_7⟩
theorem cb_X7_forget : CB yX7_forget cX7_forget 5 (some .int) 1 := ⟨u14_10, u0_5, by decide +kernel⟩
theorem cv_X7_forget : CV yX7_forget := ⟨u14_8, u14_9⟩
theorem cb_X7_pass : CB yX7_pass cX7_pass 2 (some .int) 1 := ⟨u15_13, u0_5, by decide +kernel⟩
theorem cv_X7_pass : CV yX7_pass := ⟨u15_11, u15_12⟩
theorem cb_J9_max_7cf53 : CB yJ9_max_7cf53 cJ9_max_7cf53 2 (some .int) 2 := ⟨u5_17, u5_16, by decide +kernel⟩

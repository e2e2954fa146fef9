set_option maxRecDepth 20000 in
theorem mg_lwin_1 : ∀ w ∈ wsL_law0_r1, w ∈ lw_tbl := fun w h => (goodIn_p wsL_law0_r1 [830, 521, 518, 50, 53] (by decide +kernel) (by decide +kernel) w h).1
set_option maxRecDepth 20000 in
theorem mg_lwin_2 : ∀ w ∈ wsL_law0_r2, w ∈ lw_tbl := fun w h => (goodIn_p wsL_law0_r2 [] (by decide +kernel) (by decide +kernel) w h).1
set_option maxRecDepth 20000 in
theorem mg_lwin_3 : ∀ w ∈ wsL_law0_r3, w ∈ lw_tbl := fun w h => (goodIn_p wsL_law0_r3 [58, 94, 112] (by decide +kernel) (by decide +kernel) w h).1
set_option maxRecDepth 20000 in
theorem mg_lwin_4 : ∀ w ∈ wsL_law0_r4, w ∈ lw_tbl := fun w h => (goodIn_p wsL_law0_r4 [129, 143, 164, 794] (by decide +kernel) (by decide +kernel) w h).1
set_option maxRecDepth 20000 in
theorem mg_lwin_5 : ∀ w ∈ wsL_law0_r5, w ∈ lw_tbl := List.forall_mem_cons.mpr ⟨(by decide +kernel : Cond.classLink RL 16 RX7 ∈ lw_tbl), List.forall_mem_cons.mpr ⟨(by decide +kernel : Cond.instantiable RX7 6 ∈ lw_tbl), List.forall_mem_cons.mpr ⟨(by decide +kernel : Cond.initialized RX7 ∈ lw_tbl), List.forall_mem_cons.mpr ⟨(by decide +kernel : Cond.constant RL 86 (100000) ∈ lw_tbl), List.forall_mem_cons.mpr ⟨(by decide +kernel : Cond.instanceMethod yX7_init ∈ lw_tbl), List.forall_mem_cons.mpr ⟨List.mem_of_getElem? (i := 799) rfl, List.forall_mem_cons.mpr ⟨(by decide +kernel : Cond.methodLink RX7 1 objectInit ∈ lw_tbl), List.forall_mem_cons.mpr ⟨(by decide +kernel : Cond.fieldLink RX7 7 "MoonGateLaw$Sim" "coins" "I" ∈ lw_tbl), List.forall_mem_cons.mpr ⟨(by decide +kernel : Cond.fieldLink RX7 15 "MoonGateLaw$Sim" "cells" "[[[I" ∈ lw_tbl), List.forall_mem_cons.mpr ⟨(by decide +kernel : Cond.classLink RX7 18 "[I" ∈ lw_tbl), List.forall_mem_cons.mpr ⟨(by decide +kernel : Cond.fieldLink RX7 20 "MoonGateLaw$Sim" "carps" "[[I" ∈ lw_tbl), List.forall_mem_cons.mpr ⟨(by decide +kernel : Cond.fieldLink RX7 24 "MoonGateLaw$Sim" "gates" "[[I" ∈ lw_tbl), List.forall_mem_cons.mpr ⟨(by decide +kernel : Cond.fieldLink RX7 27 "MoonGateLaw$Sim" "poets" "[[I" ∈ lw_tbl), List.forall_mem_cons.mpr ⟨(by decide +kernel : Cond.methodLink RL 82 yL_cell ∈ lw_tbl), List.forall_mem_cons.mpr ⟨(by decide +kernel : Cond.static yL_cell ∈ lw_tbl), List.forall_mem_cons.mpr ⟨List.mem_of_getElem? (i := 651) rfl, List.forall_mem_cons.mpr ⟨(by decide +kernel : Cond.constant RL 8 (790386105) ∈ lw_tbl), List.forall_mem_cons.mpr ⟨(by decide +kernel : Cond.methodLink RL 9 yL_below ∈ lw_tbl), List.forall_mem_cons.mpr ⟨(by decide +kernel : Cond.static yL_below ∈ lw_tbl), List.forall_mem_cons.mpr ⟨List.mem_of_getElem? (i := 647) rfl, List.forall_mem_cons.mpr ⟨(by decide +kernel : Cond.constant RL 7 (2147483647) ∈ lw_tbl), List.forall_mem_cons.mpr ⟨(by decide +kernel : Cond.methodLink RL 87 yL_act ∈ lw_tbl), List.forall_mem_cons.mpr ⟨(by decide +kernel : Cond.static yL_act ∈ lw_tbl), List.forall_mem_cons.mpr ⟨List.mem_of_getElem? (i := 655) rfl, fun _ h => absurd h List.not_mem_nil⟩⟩⟩⟩⟩⟩⟩⟩⟩⟩⟩⟩⟩⟩⟩⟩⟩⟩⟩⟩⟩⟩⟩⟩
set_option maxRecDepth 20000 in
theorem mg_lwin_6 : ∀ w ∈ wsL_law0_r6, w ∈ lw_tbl := fun w h => (goodIn_p wsL_law0_r6 [660, 215, 218, 547] (by decide +kernel) (by decide +kernel) w h).1
set_option maxRecDepth 20000 in
theorem mg_lwin_7 : ∀ w ∈ wsL_law0_r7, w ∈ lw_tbl := fun w h => (goodIn_p wsL_law0_r7 [294, 664, 553, 298, 301, 684] (by decide +kernel) (by decide +kernel) w h).1
set_option maxRecDepth 20000 in
theorem mg_lwin_8 : ∀ w ∈ wsL_law0_r8, w ∈ lw_tbl := fun w h => (goodIn_p wsL_law0_r8 [561, 565, 689, 693, 697, 701] (by decide +kernel) (by decide +kernel) w h).1
set_option maxRecDepth 20000 in
theorem mg_lwin_9 : ∀ w ∈ wsL_law0_r9, w ∈ lw_tbl := fun w h => (goodIn_p wsL_law0_r9 [705, 709, 383, 386, 313] (by decide +kernel) (by decide +kernel) w h).1
set_option maxRecDepth 20000 in
theorem mg_lwin_10 : ∀ w ∈ wsL_law0_r10, w ∈ lw_tbl := fun w h => (goodIn_p wsL_law0_r10 [317, 604, 613, 716, 720, 724] (by decide +kernel) (by decide +kernel) w h).1
set_option maxRecDepth 20000 in
theorem mg_lwin_11 : ∀ w ∈ wsL_law0_r11, w ∈ lw_tbl := fun w h => (goodIn_p wsL_law0_r11 [729, 309, 734, 738, 742] (by decide +kernel) (by decide +kernel) w h).1
set_option maxRecDepth 20000 in
theorem mg_lwin_12 : ∀ w ∈ wsL_law0_r12, w ∈ lw_tbl := fun w h => (goodIn_p wsL_law0_r12 [749, 515, 753, 626, 758, 329] (by decide +kernel) (by decide +kernel) w h).1
set_option maxRecDepth 20000 in
theorem mg_lwin_13 : ∀ w ∈ wsL_law0_r13, w ∈ lw_tbl := fun w h => (goodIn_p wsL_law0_r13 [346, 338, 763, 334, 342, 767] (by decide +kernel) (by decide +kernel) w h).1
set_option maxRecDepth 20000 in
theorem mg_lwin_14 : ∀ w ∈ wsL_law0_r14, w ∈ lw_tbl := fun w h => (goodIn_p wsL_law0_r14 [774, 778, 358, 783, 787] (by decide +kernel) (by decide +kernel) w h).1
set_option maxRecDepth 20000 in
theorem mg_lwin_15 : ∀ w ∈ wsL_law0_r15, w ∈ lw_tbl := fun w h => (goodIn_p wsL_law0_r15 [439, 427, 431, 791, 477, 481] (by decide +kernel) (by decide +kernel) w h).1
set_option maxRecDepth 20000 in
theorem mg_lwin_16 : ∀ w ∈ wsL_law0_r16, w ∈ lw_tbl := fun w h => (goodIn_p wsL_law0_r16 [501, 505, 509, 321, 525, 452] (by decide +kernel) (by decide +kernel) w h).1
set_option maxRecDepth 20000 in
theorem mg_lwin_17 : ∀ w ∈ wsL_law0_r17, w ∈ lw_tbl := fun w h => (goodIn_p wsL_law0_r17 [363, 367, 371, 375] (by decide +kernel) (by decide +kernel) w h).1
set_option maxRecDepth 20000 in
theorem mg_lwin_18 : ∀ w ∈ wsL_law0_r18, w ∈ lw_tbl := fun w h => (goodIn_p wsL_law0_r18 [379, 396, 401, 305, 405, 409] (by decide +kernel) (by decide +kernel) w h).1
set_option maxRecDepth 20000 in
theorem mg_lwin_19 : ∀ w ∈ wsL_law0_r19, w ∈ lw_tbl := fun w h => (goodIn_p wsL_law0_r19 [414, 418, 530, 600, 610] (by decide +kernel) (by decide +kernel) w h).1
set_option maxRecDepth 20000 in
theorem mg_lwin_20 : ∀ w ∈ wsL_law0_r20, w ∈ lw_tbl := fun w h => (goodIn_p wsL_law0_r20 [617, 621, 448, 290, 456] (by decide +kernel) (by decide +kernel) w h).1
set_option maxRecDepth 20000 in
theorem mg_lwin_21 : ∀ w ∈ wsL_law0_r21, w ∈ lw_tbl := fun w h => (goodIn_p wsL_law0_r21 [460, 465, 469, 473, 211] (by decide +kernel) (by decide +kernel) w h).1
set_option maxRecDepth 20000 in
theorem mg_lwin_22 : ∀ w ∈ wsL_law0_r22, w ∈ lw_tbl := fun w h => (goodIn_p wsL_law0_r22 [325, 350, 435, 444, 354, 423] (by decide +kernel) (by decide +kernel) w h).1
set_option maxRecDepth 20000 in
theorem mg_lwin_23 : ∀ w ∈ wsL_law0_r23, w ∈ lw_tbl := fun w h => (goodIn_p wsL_law0_r23 [573, 577, 584, 589] (by decide +kernel) (by decide +kernel) w h).1
set_option maxRecDepth 20000 in
theorem mg_lwin_24 : ∀ w ∈ wsL_law0_r24, w ∈ lw_tbl := fun w h => (goodIn_p wsL_law0_r24 [594, 534, 539, 543, 557, 569] (by decide +kernel) (by decide +kernel) w h).1
set_option maxRecDepth 20000 in
theorem mg_lwin_25 : ∀ w ∈ wsL_law0_r25, w ∈ lw_tbl := List.forall_mem_cons.mpr ⟨(by decide +kernel : Cond.instanceMethod yX7_isSame ∈ lw_tbl), List.forall_mem_cons.mpr ⟨(by decide +kernel : Cond.selects RX7 yX7_isSame yX7_isSame ∈ lw_tbl), List.forall_mem_cons.mpr ⟨List.mem_of_getElem? (i := 630) rfl, List.forall_mem_cons.mpr ⟨(by decide +kernel : Cond.methodLink RX7 67 yX6_cell ∈ lw_tbl), List.forall_mem_cons.mpr ⟨(by decide +kernel : Cond.methodLink RX7 73 yX6_told ∈ lw_tbl), List.forall_mem_cons.mpr ⟨(by decide +kernel : Cond.methodLink RX7 77 yX6_about ∈ lw_tbl), List.forall_mem_cons.mpr ⟨(by decide +kernel : Cond.methodLink RX7 80 yX6_lines ∈ lw_tbl), List.forall_mem_cons.mpr ⟨(by decide +kernel : Cond.methodLink RX7 84 yX7_counts ∈ lw_tbl), List.forall_mem_cons.mpr ⟨(by decide +kernel : Cond.instanceMethod yX7_counts ∈ lw_tbl), List.forall_mem_cons.mpr ⟨(by decide +kernel : Cond.selects RX7 yX7_counts yX7_counts ∈ lw_tbl), List.forall_mem_cons.mpr ⟨List.mem_of_getElem? (i := 638) rfl, List.forall_mem_cons.mpr ⟨(by decide +kernel : Cond.methodLink RX7 88 yX6_count ∈ lw_tbl), List.forall_mem_cons.mpr ⟨(by decide +kernel : Cond.methodLink RX7 91 yX6_finest ∈ lw_tbl), List.forall_mem_cons.mpr ⟨(by decide +kernel : Cond.methodLink RX7 95 yX6_mean ∈ lw_tbl), List.forall_mem_cons.mpr ⟨(by decide +kernel : Cond.instanceMethod yX6_mean ∈ lw_tbl), List.forall_mem_cons.mpr ⟨(by decide +kernel : Cond.selects RX6 yX6_mean yX6_mean ∈ lw_tbl), List.forall_mem_cons.mpr ⟨List.mem_of_getElem? (i := 644) rfl, fun _ h => absurd h List.not_mem_nil⟩⟩⟩⟩⟩⟩⟩⟩⟩⟩⟩⟩⟩⟩⟩⟩⟩
theorem mg_lwin_wsX60 : ∀ w ∈ wsX60, w ∈ lw_tbl := by decide +kernel
theorem mg_lwin_wsX70 : ∀ w ∈ wsX70, w ∈ lw_tbl := by decide +kernel
theorem mg_lwin_wsX10 : ∀ w ∈ wsX10, w ∈ lw_tbl := by decide +kernel
theorem mg_lwin_wsX40 : ∀ w ∈ wsX40, w ∈ lw_tbl := by decide +kernel
theorem mg_lwin_wsX20 : ∀ w ∈ wsX20, w ∈ lw_tbl := by decide +kernel
theorem mg_lwin_wsX30 : ∀ w ∈ wsX30, w ∈ lw_tbl := by decide +kernel
theorem mg_lwin_wsX00 : ∀ w ∈ wsX00, w ∈ lw_tbl := by decide +kernel
theorem mg_lwin_wsX50 : ∀ w ∈ wsX50, w ∈ lw_tbl := by decide +kernel
theorem mg_app {a b t : List Cond} (ha : ∀ w ∈ a, w ∈ t) (hb : ∀ w ∈ b, w ∈ t) : ∀ w ∈ a ++ b, w ∈ t := fun w h => (List.mem_append.mp h).elim (ha w) (hb w)
theorem wsL_law_in0 : ∀ w ∈ wsL_law0, w ∈ lw_tbl := (mg_app (mg_app (mg_app (mg_app (mg_app (mg_app (mg_app (mg_app (mg_app (mg_app mg_lwin_1 (mg_app mg_lwin_2 (mg_app mg_lwin_3 (mg_app mg_lwin_4 (mg_app mg_lwin_5 (mg_app mg_lwin_6 (mg_app mg_lwin_7 (mg_app mg_lwin_8 (mg_app mg_lwin_9 (mg_app mg_lwin_10 (mg_app mg_lwin_11 (mg_app mg_lwin_12 (mg_app mg_lwin_13 (mg_app mg_lwin_14 (mg_app mg_lwin_15 (mg_app mg_lwin_16 (mg_app mg_lwin_17 (mg_app mg_lwin_18 (mg_app mg_lwin_19 (mg_app mg_lwin_20 (mg_app mg_lwin_21 (mg_app mg_lwin_22 (mg_app mg_lwin_23 (mg_app mg_lwin_24 mg_lwin_25)))))))))))))))))))))))) mg_lwin_wsX60) mg_lwin_wsX70) mg_lwin_wsX10) mg_lwin_wsX40) mg_lwin_wsX20) mg_lwin_wsX30) mg_lwin_wsX00) mg_lwin_wsX50) (fun _ h => absurd h List.not_mem_nil))
theorem wsL_law_x0 : ∀ w ∈ (vx_atS RX6 253 "java/lang/IndexOutOfBoundsException" ["java/lang/RuntimeException", "java/lang/Exception"]).filter goodWord, w ∈ lw_tbl := by decide +kernel
theorem wsL_law_x1 : ∀ w ∈ (vx_atS RX6 170 "java/lang/IllegalArgumentException" ["java/lang/RuntimeException", "java/lang/Exception"]).filter goodWord, w ∈ lw_tbl := by decide +kernel
theorem wsL_law_x2 : ∀ w ∈ (vx_atS RX6 98 "java/lang/IllegalStateException" ["java/lang/RuntimeException", "java/lang/Exception"]).filter goodWord, w ∈ lw_tbl := by decide +kernel
theorem wsL_law_in : ∀ w ∈ wsL_law, w ∈ lw_tbl := fun w h => (List.mem_append.mp h).elim (fun h => (List.mem_append.mp h).elim (fun h => (List.mem_append.mp h).elim (fun h => wsL_law_in0 w h) (fun h => wsL_law_x0 w h)) (fun h => wsL_law_x1 w h)) (fun h => wsL_law_x2 w h)
theorem inlX0 : ∀ w ∈ wsX00, w ∈ wsL_law := fun _ h => List.mem_append_left _ (List.mem_append_left _ (List.mem_append_left _ (List.mem_append_left _ (List.mem_append_left _ (List.mem_append_right _ h)))))
theorem inX0 : ∀ w ∈ wsX00, w ∈ lw_tbl := fun w h => wsL_law_in w (inlX0 w h)
theorem inlX1 : ∀ w ∈ wsX10, w ∈ wsL_law := fun _ h => List.mem_append_left _ (List.mem_append_left _ (List.mem_append_left _ (List.mem_append_left _ (List.mem_append_left _ (List.mem_append_left _ (List.mem_append_left _ (List.mem_append_left _ (List.mem_append_left _ (List.mem_append_right _ h)))))))))
theorem inX1 : ∀ w ∈ wsX10, w ∈ lw_tbl := fun w h => wsL_law_in w (inlX1 w h)
theorem inlX2 : ∀ w ∈ wsX20, w ∈ wsL_law := fun _ h => List.mem_append_left _ (List.mem_append_left _ (List.mem_append_left _ (List.mem_append_left _ (List.mem_append_left _ (List.mem_append_left _ (List.mem_append_left _ (List.mem_append_right _ h)))))))
theorem inX2 : ∀ w ∈ wsX20, w ∈ lw_tbl := fun w h => wsL_law_in w (inlX2 w h)
theorem inlX3 : ∀ w ∈ wsX30, w ∈ wsL_law := fun _ h => List.mem_append_left _ (List.mem_append_left _ (List.mem_append_left _ (List.mem_append_left _ (List.mem_append_left _ (List.mem_append_left _ (List.mem_append_right _ h))))))
theorem inX3 : ∀ w ∈ wsX30, w ∈ lw_tbl := fun w h => wsL_law_in w (inlX3 w h)
theorem inlX4 : ∀ w ∈ wsX40, w ∈ wsL_law := fun _ h => List.mem_append_left _ (List.mem_append_left _ (List.mem_append_left _ (List.mem_append_left _ (List.mem_append_left _ (List.mem_append_left _ (List.mem_append_left _ (List.mem_append_left _ (List.mem_append_right _ h))))))))
theorem inX4 : ∀ w ∈ wsX40, w ∈ lw_tbl := fun w h => wsL_law_in w (inlX4 w h)
theorem inlX5 : ∀ w ∈ wsX50, w ∈ wsL_law := fun _ h => List.mem_append_left _ (List.mem_append_left _ (List.mem_append_left _ (List.mem_append_left _ (List.mem_append_right _ h))))
theorem inX5 : ∀ w ∈ wsX50, w ∈ lw_tbl := fun w h => wsL_law_in w (inlX5 w h)
theorem inlX6 : ∀ w ∈ wsX60, w ∈ wsL_law := fun _ h => List.mem_append_left _ (List.mem_append_left _ (List.mem_append_left _ (List.mem_append_left _ (List.mem_append_left _ (List.mem_append_left _ (List.mem_append_left _ (List.mem_append_left _ (List.mem_append_left _ (List.mem_append_left _ (List.mem_append_left _ (List.mem_append_right _ h)))))))))))
theorem inX6 : ∀ w ∈ wsX60, w ∈ lw_tbl := fun w h => wsL_law_in w (inlX6 w h)
theorem inlX7 : ∀ w ∈ wsX70, w ∈ wsL_law := fun _ h => List.mem_append_left _ (List.mem_append_left _ (List.mem_append_left _ (List.mem_append_left _ (List.mem_append_left _ (List.mem_append_left _ (List.mem_append_left _ (List.mem_append_left _ (List.mem_append_left _ (List.mem_append_left _ (List.mem_append_right _ h))))))))))
theorem inX7 : ∀ w ∈ wsX70, w ∈ lw_tbl := fun w h => wsL_law_in w (inlX7 w h)
theorem inX8 : ∀ w ∈ wsX80, w ∈ lw_tbl := by decide +kernel
theorem inX9 : ∀ w ∈ wsX90, w ∈ lw_tbl := by decide +kernel
theorem inJ9 : ∀ w ∈ wsJ90, w ∈ lw_tbl := by decide +kernel
theorem inJ0 : ∀ w ∈ wsJ00, w ∈ lw_tbl := by decide +kernel

theorem goodIn_cons {big a : List Cond} {c : Cond} (h0 : GoodIn big [c]) (ha : GoodIn big a) : GoodIn big (c :: a) := fun w h => (List.mem_cons.mp h).elim (fun e => h0 w (List.mem_singleton.mpr e)) (ha w)
theorem dL_below_0 : decode cL_below 0 = .ok (.iload_n 0, 1) := by decide +kernel
theorem dL_below_1 : decode cL_below 1 = .ok (.ldc 7, 2) := by decide +kernel
theorem dL_below_3 : decode cL_below 3 = .ok (.iand, 1) := by decide +kernel
theorem dL_below_4 : decode cL_below 4 = .ok (.iload_n 1, 1) := by decide +kernel
theorem dL_below_5 : decode cL_below 5 = .ok (.irem, 1) := by decide +kernel
theorem dL_below_6 : decode cL_below 6 = .ok (.ireturn, 1) := by decide +kernel
theorem dL_cell_0 : decode cL_cell 0 = .ok (.iload_n 1, 1) := by decide +kernel
theorem dL_cell_1 : decode cL_cell 1 = .ok (.aload_n 0, 1) := by decide +kernel
theorem dL_cell_2 : decode cL_cell 2 = .ok (.arraylength, 1) := by decide +kernel
theorem dL_cell_3 : decode cL_cell 3 = .ok (.if_icmp .ge 9, 3) := by decide +kernel
theorem dL_cell_6 : decode cL_cell 6 = .ok (.aload_n 0, 1) := by decide +kernel
theorem dL_cell_7 : decode cL_cell 7 = .ok (.iload_n 1, 1) := by decide +kernel
theorem dL_cell_8 : decode cL_cell 8 = .ok (.iaload, 1) := by decide +kernel
theorem dL_cell_9 : decode cL_cell 9 = .ok (.goto 9, 3) := by decide +kernel
theorem dL_cell_12 : decode cL_cell 12 = .ok (.ldc 8, 2) := by decide +kernel
theorem dL_cell_14 : decode cL_cell 14 = .ok (.iload_n 1, 1) := by decide +kernel
theorem dL_cell_15 : decode cL_cell 15 = .ok (.iconst 3, 1) := by decide +kernel
theorem dL_cell_16 : decode cL_cell 16 = .ok (.iadd, 1) := by decide +kernel
theorem dL_cell_17 : decode cL_cell 17 = .ok (.imul, 1) := by decide +kernel
theorem dL_cell_18 : decode cL_cell 18 = .ok (.ireturn, 1) := by decide +kernel
set_option maxRecDepth 20000 in
theorem ggL_act_L_below : GoodIn wsL_act wsL_below := goodIn_r _ [11, 12] (by decide +kernel) (by decide +kernel)
set_option maxRecDepth 20000 in
theorem gL_act_L_below : GoodIn wsL_act (va_wsS RL 9 yL_below wsL_below) := goodIn_app (goodIn_of _ (by decide +kernel)) ggL_act_L_below
set_option maxRecDepth 20000 in
theorem ggL_act_X6_rock : GoodIn wsL_act wsX6_rock := goodIn_ca (goodIn_ca (goodIn_ca (goodIn_r _ [17, 18, 19, 20, 21, 22, 23, 16, 24, 25, 26, 27, 28, 29, 30, 31, 32, 33, 34, 35, 36, 37, 38, 39, 40, 41, 42, 43, 44, 45, 46, 47, 48, 49, 50, 51, 52, 53, 54, 55, 56, 57, 58, 59, 60, 61, 62, 63, 64, 65, 66, 67, 68, 69, 70, 71, 282, 283, 284, 285, 286, 287, 288, 289, 290, 291, 292, 293, 294, 295, 296, 297, 298, 299, 300, 301] (by decide +kernel) (by decide +kernel)) (goodIn_sub (fun _ h => List.mem_cons_of_mem _ (List.mem_append_left _ (List.mem_append_left _ (List.mem_append_right _ h)))) (by decide +kernel))) (goodIn_sub (fun _ h => List.mem_cons_of_mem _ (List.mem_append_left _ (List.mem_append_right _ h))) (by decide +kernel))) (goodIn_sub (fun _ h => List.mem_cons_of_mem _ (List.mem_append_right _ h)) (by decide +kernel))
set_option maxRecDepth 20000 in
theorem gL_act_X6_rock : GoodIn wsL_act (wsV RL 25 RX6 yX6_rock wsX6_rock) := goodIn_app (goodIn_of _ (by decide +kernel)) ggL_act_X6_rock
set_option maxRecDepth 20000 in
theorem ggL_act_X6_dig : GoodIn wsL_act wsX6_dig := goodIn_ca (goodIn_ca (goodIn_r _ [75, 18, 21, 22, 23, 16, 24, 25, 26, 27, 28, 29, 30, 37, 38, 39, 40, 41, 42, 43, 44, 45, 46, 47, 48, 49, 50, 51, 52, 53, 54, 55, 56, 57, 58, 59, 60, 61, 19, 20, 76, 77, 78, 79, 66, 67, 68, 69, 70, 71, 80, 81, 82, 83, 84, 85, 86, 87, 88, 89, 90, 91, 92, 93, 94, 95, 96, 97, 98, 99, 100, 101, 102, 103, 104, 105, 106, 107, 108, 109, 110, 111, 112, 113, 114, 115, 116, 117, 118, 119, 120, 282, 283, 284, 285, 286, 287, 288, 293, 294, 295, 296, 297, 298, 299, 300, 301, 289, 290, 291, 292] (by decide +kernel) (by decide +kernel)) (goodIn_sub (fun _ h => List.mem_cons_of_mem _ (List.mem_append_left _ (List.mem_append_left _ (List.mem_append_right _ h)))) (by decide +kernel))) (goodIn_sub (fun _ h => List.mem_cons_of_mem _ (List.mem_append_right _ h)) (by decide +kernel))
set_option maxRecDepth 20000 in
theorem gL_act_X6_dig : GoodIn wsL_act (wsV RL 33 RX6 yX6_dig wsX6_dig) := goodIn_app (goodIn_of _ (by decide +kernel)) ggL_act_X6_dig
set_option maxRecDepth 20000 in
theorem ggL_act_X7_pond : GoodIn wsL_act wsX7_pond := goodIn_r _ [125, 126, 127, 128, 276, 277, 278, 279, 280, 281] (by decide +kernel) (by decide +kernel)
set_option maxRecDepth 20000 in
theorem gL_act_X7_pond : GoodIn wsL_act (wsV RL 36 RX7 yX7_pond wsX7_pond) := goodIn_app (goodIn_of _ (by decide +kernel)) ggL_act_X7_pond
set_option maxRecDepth 20000 in
theorem ggL_act_X7_many : GoodIn wsL_act wsX7_many := goodIn_r _ [131] (by decide +kernel) (by decide +kernel)
set_option maxRecDepth 20000 in
theorem gL_act_X7_many : GoodIn wsL_act (va_wsS RL 40 yX7_many wsX7_many) := goodIn_app (goodIn_of _ (by decide +kernel)) ggL_act_X7_many
set_option maxRecDepth 20000 in
theorem ggL_act_X6_wall : GoodIn wsL_act wsX6_wall := goodIn_ca (goodIn_ca (goodIn_r _ [135, 18, 19, 20, 21, 22, 23, 16, 24, 25, 26, 27, 28, 29, 30, 37, 38, 39, 40, 41, 42, 43, 44, 45, 46, 47, 48, 49, 50, 51, 52, 53, 54, 55, 56, 57, 58, 59, 60, 61, 136, 137, 138, 139, 66, 67, 68, 69, 70, 71, 282, 283, 284, 285, 286, 287, 288, 289, 290, 291, 292, 293, 294, 295, 296, 297, 298, 299, 300, 301] (by decide +kernel) (by decide +kernel)) (goodIn_sub (fun _ h => List.mem_cons_of_mem _ (List.mem_append_left _ (List.mem_append_left _ (List.mem_append_right _ h)))) (by decide +kernel))) (goodIn_sub (fun _ h => List.mem_cons_of_mem _ (List.mem_append_right _ h)) (by decide +kernel))
set_option maxRecDepth 20000 in
theorem gL_act_X6_wall : GoodIn wsL_act (wsV RL 44 RX6 yX6_wall wsX6_wall) := goodIn_app (goodIn_of _ (by decide +kernel)) ggL_act_X6_wall
set_option maxRecDepth 20000 in
theorem ggL_act_X6_clear : GoodIn wsL_act wsX6_clear := goodIn_ca (goodIn_ca (goodIn_r _ [143, 44, 45, 18, 19, 20, 21, 22, 23, 16, 24, 25, 26, 27, 28, 29, 30, 37, 38, 39, 46, 47, 48, 49, 50, 51, 52, 53, 54, 55, 56, 57, 144, 145, 146, 147, 97, 148, 149, 150, 151, 71, 152, 153, 154, 155, 156, 157, 158, 159, 66, 67, 68, 69, 70, 80, 81, 82, 83, 84, 85, 86, 87, 88, 89, 90, 91, 92, 93, 94, 95, 96, 98, 99, 100, 101, 102, 103, 104, 105, 106, 107, 108, 109, 110, 111, 112, 282, 283, 284, 285, 286, 287, 288, 289, 290, 291, 292, 293, 294, 295, 296, 297, 298, 299, 300, 301] (by decide +kernel) (by decide +kernel)) (goodIn_sub (fun _ h => List.mem_cons_of_mem _ (List.mem_append_right _ h)) (by decide +kernel))) (goodIn_sub (fun _ h => List.mem_cons_of_mem _ (List.mem_append_left _ (List.mem_append_left _ (List.mem_append_right _ h)))) (by decide +kernel))
set_option maxRecDepth 20000 in
theorem gL_act_X6_clear : GoodIn wsL_act (wsV RL 51 RX6 yX6_clear wsX6_clear) := goodIn_app (goodIn_of _ (by decide +kernel)) ggL_act_X6_clear
set_option maxRecDepth 20000 in
theorem ggL_act_X6_carp : GoodIn wsL_act wsX6_carp := goodIn_ca (goodIn_ca (goodIn_r _ [163, 44, 45, 18, 164, 165, 19, 21, 22, 23, 16, 24, 25, 26, 27, 28, 29, 30, 37, 38, 39, 166, 157, 158, 159, 50, 51, 52, 53, 54, 55, 56, 57, 58, 59, 60, 61, 20, 167, 168, 169, 170, 171, 172, 173, 174, 175, 176, 177, 178, 179, 180, 181, 182, 183, 184, 185, 186, 187, 188, 189, 190, 191, 97, 95, 117, 118, 119, 120, 84, 282, 283, 284, 285, 286, 287, 288, 302, 303, 304, 293, 294, 295, 296, 297, 298, 299, 300, 301, 289, 290, 291, 292] (by decide +kernel) (by decide +kernel)) (goodIn_sub (fun _ h => List.mem_cons_of_mem _ (List.mem_append_right _ h)) (by decide +kernel))) (goodIn_sub (fun _ h => List.mem_cons_of_mem _ (List.mem_append_left _ (List.mem_append_left _ (List.mem_append_right _ h)))) (by decide +kernel))
set_option maxRecDepth 20000 in
theorem gL_act_X6_carp : GoodIn wsL_act (wsV RL 54 RX6 yX6_carp wsX6_carp) := goodIn_app (goodIn_of _ (by decide +kernel)) ggL_act_X6_carp
set_option maxRecDepth 20000 in
theorem ggL_act_X7_more : GoodIn wsL_act wsX7_more := goodIn_r _ [194, 195] (by decide +kernel) (by decide +kernel)
set_option maxRecDepth 20000 in
theorem gL_act_X7_more : GoodIn wsL_act (va_wsS RL 57 yX7_more wsX7_more) := goodIn_app (goodIn_of _ (by decide +kernel)) ggL_act_X7_more
set_option maxRecDepth 20000 in
theorem ggL_act_X6_sell : GoodIn wsL_act wsX6_sell := goodIn_ca (goodIn_ca (goodIn_r _ [199, 44, 45, 164, 18, 19, 20, 200, 201, 202, 16, 203, 25, 26, 165, 204, 205, 206, 170, 207, 174, 208, 209, 210, 211, 172, 212, 213, 214, 215, 216, 217, 218, 219, 173, 188, 189, 190, 29, 191, 97, 95, 117, 118, 119, 120, 84, 55, 56, 57, 220, 221, 222, 178, 223, 180, 282, 283, 284, 285, 286, 287, 288, 289, 290, 291, 292, 302, 303, 304, 293, 294, 295, 296, 297, 298, 299, 300, 301] (by decide +kernel) (by decide +kernel)) (goodIn_sub (fun _ h => List.mem_cons_of_mem _ (List.mem_append_right _ h)) (by decide +kernel))) (goodIn_sub (fun _ h => List.mem_cons_of_mem _ (List.mem_append_left _ (List.mem_append_left _ (List.mem_append_right _ h)))) (by decide +kernel))
set_option maxRecDepth 20000 in
theorem gL_act_X6_sell : GoodIn wsL_act (wsV RL 61 RX6 yX6_sell wsX6_sell) := goodIn_app (goodIn_of _ (by decide +kernel)) ggL_act_X6_sell
set_option maxRecDepth 20000 in
theorem ggL_act_X6_gate : GoodIn wsL_act wsX6_gate := goodIn_ca (goodIn_ca (goodIn_ca (goodIn_r _ [227, 35, 36, 44, 45, 228, 229, 21, 22, 23, 16, 24, 25, 26, 27, 28, 29, 30, 230, 109, 110, 37, 38, 39, 231, 232, 233, 234, 235, 236, 237, 238, 282, 283, 284, 285, 286, 287, 288, 305, 306, 307] (by decide +kernel) (by decide +kernel)) (goodIn_sub (fun _ h => List.mem_cons_of_mem _ (List.mem_append_left _ (List.mem_append_right _ h))) (by decide +kernel))) (goodIn_sub (fun _ h => List.mem_cons_of_mem _ (List.mem_append_right _ h)) (by decide +kernel))) (goodIn_sub (fun _ h => List.mem_cons_of_mem _ (List.mem_append_left _ (List.mem_append_left _ (List.mem_append_right _ h)))) (by decide +kernel))
set_option maxRecDepth 20000 in
theorem gL_act_X6_gate : GoodIn wsL_act (wsV RL 68 RX6 yX6_gate wsX6_gate) := goodIn_app (goodIn_of _ (by decide +kernel)) ggL_act_X6_gate
set_option maxRecDepth 20000 in
theorem ggL_act_X6_invite : GoodIn wsL_act wsX6_invite := goodIn_ca (goodIn_ca (goodIn_r _ [242, 44, 45, 243, 244, 245, 246, 247, 16, 248, 25, 26, 228, 229, 249, 250, 251, 252, 253, 254, 255, 282, 283, 284, 285, 286, 287, 288, 308, 309, 305, 306, 307] (by decide +kernel) (by decide +kernel)) (goodIn_sub (fun _ h => List.mem_cons_of_mem _ (List.mem_append_right _ h)) (by decide +kernel))) (goodIn_sub (fun _ h => List.mem_cons_of_mem _ (List.mem_append_left _ (List.mem_append_left _ (List.mem_append_right _ h)))) (by decide +kernel))
set_option maxRecDepth 20000 in
theorem gL_act_X6_invite : GoodIn wsL_act (wsV RL 75 RX6 yX6_invite wsX6_invite) := goodIn_app (goodIn_of _ (by decide +kernel)) ggL_act_X6_invite
set_option maxRecDepth 20000 in
theorem ggL_act_X6_lead : GoodIn wsL_act wsX6_lead := goodIn_ca (goodIn_r _ [259, 243, 260, 261, 262, 16, 263, 25, 26, 244, 245, 246, 247, 248, 228, 229, 264, 265, 266, 252, 267, 255, 268, 269, 270, 271, 254, 272, 273, 274, 275, 282, 283, 284, 285, 286, 287, 288, 308, 309, 305, 306, 307] (by decide +kernel) (by decide +kernel)) (goodIn_sub (fun _ h => List.mem_cons_of_mem _ (List.mem_append_left _ (List.mem_append_left _ (List.mem_append_right _ h)))) (by decide +kernel))
set_option maxRecDepth 20000 in
theorem gL_act_X6_lead : GoodIn wsL_act (wsV RL 78 RX6 yX6_lead wsX6_lead) := goodIn_app (goodIn_of _ (by decide +kernel)) ggL_act_X6_lead
theorem dL_act_0 : decode cL_act 0 = .ok (.iload_n 2, 1) := by decide +kernel
theorem dL_act_1 : decode cL_act 1 = .ok (.bipush 9, 2) := by decide +kernel
theorem dL_act_3 : decode cL_act 3 = .ok (.ishr, 1) := by decide +kernel
theorem dL_act_4 : decode cL_act 4 = .ok (.iconst 2, 1) := by decide +kernel
theorem dL_act_5 : decode cL_act 5 = .ok (.invokestatic 9, 3) := by decide +kernel
theorem dL_act_8 : decode cL_act 8 = .ok (.ifCond .ne 14, 3) := by decide +kernel
theorem dL_act_11 : decode cL_act 11 = .ok (.iload_n 2, 1) := by decide +kernel
theorem dL_act_12 : decode cL_act 12 = .ok (.iconst 3, 1) := by decide +kernel
theorem dL_act_13 : decode cL_act 13 = .ok (.ishr, 1) := by decide +kernel
theorem dL_act_14 : decode cL_act 14 = .ok (.bipush 10, 2) := by decide +kernel
theorem dL_act_16 : decode cL_act 16 = .ok (.invokestatic 9, 3) := by decide +kernel
theorem dL_act_19 : decode cL_act 19 = .ok (.goto 12, 3) := by decide +kernel
theorem dL_act_22 : decode cL_act 22 = .ok (.iconst 3, 1) := by decide +kernel
theorem dL_act_23 : decode cL_act 23 = .ok (.iload_n 2, 1) := by decide +kernel
theorem dL_act_24 : decode cL_act 24 = .ok (.iconst 4, 1) := by decide +kernel
theorem dL_act_25 : decode cL_act 25 = .ok (.ishr, 1) := by decide +kernel
theorem dL_act_26 : decode cL_act 26 = .ok (.iconst 4, 1) := by decide +kernel
theorem dL_act_27 : decode cL_act 27 = .ok (.invokestatic 9, 3) := by decide +kernel
theorem dL_act_30 : decode cL_act 30 = .ok (.iadd, 1) := by decide +kernel
theorem dL_act_31 : decode cL_act 31 = .ok (.istore_n 3, 1) := by decide +kernel
theorem dL_act_32 : decode cL_act 32 = .ok (.iload_n 2, 1) := by decide +kernel
theorem dL_act_33 : decode cL_act 33 = .ok (.bipush 8, 2) := by decide +kernel
theorem dL_act_35 : decode cL_act 35 = .ok (.ishr, 1) := by decide +kernel
theorem dL_act_36 : decode cL_act 36 = .ok (.iconst 2, 1) := by decide +kernel
theorem dL_act_37 : decode cL_act 37 = .ok (.invokestatic 9, 3) := by decide +kernel
theorem dL_act_40 : decode cL_act 40 = .ok (.ifCond .ne 15, 3) := by decide +kernel
theorem dL_act_43 : decode cL_act 43 = .ok (.iload_n 2, 1) := by decide +kernel
theorem dL_act_44 : decode cL_act 44 = .ok (.bipush 6, 2) := by decide +kernel
theorem dL_act_46 : decode cL_act 46 = .ok (.ishr, 1) := by decide +kernel
theorem dL_act_47 : decode cL_act 47 = .ok (.bipush 7, 2) := by decide +kernel
theorem dL_act_49 : decode cL_act 49 = .ok (.invokestatic 9, 3) := by decide +kernel
theorem dL_act_52 : decode cL_act 52 = .ok (.goto 12, 3) := by decide +kernel
theorem dL_act_55 : decode cL_act 55 = .ok (.iconst 2, 1) := by decide +kernel
theorem dL_act_56 : decode cL_act 56 = .ok (.iload_n 2, 1) := by decide +kernel
theorem dL_act_57 : decode cL_act 57 = .ok (.iconst 5, 1) := by decide +kernel
theorem dL_act_58 : decode cL_act 58 = .ok (.ishr, 1) := by decide +kernel
theorem dL_act_59 : decode cL_act 59 = .ok (.iconst 3, 1) := by decide +kernel
theorem dL_act_60 : decode cL_act 60 = .ok (.invokestatic 9, 3) := by decide +kernel
theorem dL_act_63 : decode cL_act 63 = .ok (.iadd, 1) := by decide +kernel
theorem dL_act_64 : decode cL_act 64 = .ok (.istore 4, 2) := by decide +kernel
theorem dL_act_66 : decode cL_act 66 = .ok (.aload_n 1, 1) := by decide +kernel
theorem dL_act_67 : decode cL_act 67 = .ok (.getfield 15, 3) := by decide +kernel
theorem dL_act_70 : decode cL_act 70 = .ok (.iload 4, 2) := by decide +kernel
theorem dL_act_72 : decode cL_act 72 = .ok (.aaload, 1) := by decide +kernel
theorem dL_act_73 : decode cL_act 73 = .ok (.iload_n 3, 1) := by decide +kernel
theorem dL_act_74 : decode cL_act 74 = .ok (.aaload, 1) := by decide +kernel
theorem dL_act_75 : decode cL_act 75 = .ok (.astore 5, 2) := by decide +kernel
theorem dL_act_77 : decode cL_act 77 = .ok (.iload_n 2, 1) := by decide +kernel
theorem dL_act_78 : decode cL_act 78 = .ok (.bipush 15, 2) := by decide +kernel
theorem dL_act_80 : decode cL_act 80 = .ok (.invokestatic 9, 3) := by decide +kernel
theorem dL_act_83 : decode cL_act 83 = .ok (.tableswitch 994 0 13 #[69, 69, 224, 224, 224, 314, 397, 556, 556, 556, 681, 805, 805, 897], 69) := by decide +kernel
theorem dL_act_152 : decode cL_act 152 = .ok (.iload_n 2, 1) := by decide +kernel
theorem dL_act_153 : decode cL_act 153 = .ok (.iconst 4, 1) := by decide +kernel
theorem dL_act_154 : decode cL_act 154 = .ok (.ishr, 1) := by decide +kernel
theorem dL_act_155 : decode cL_act 155 = .ok (.bipush 6, 2) := by decide +kernel
theorem dL_act_157 : decode cL_act 157 = .ok (.invokestatic 9, 3) := by decide +kernel
theorem dL_act_160 : decode cL_act 160 = .ok (.istore 7, 2) := by decide +kernel
theorem dL_act_162 : decode cL_act 162 = .ok (.iconst 1, 1) := by decide +kernel
theorem dL_act_163 : decode cL_act 163 = .ok (.iload_n 2, 1) := by decide +kernel
theorem dL_act_164 : decode cL_act 164 = .ok (.bipush 7, 2) := by decide +kernel
theorem dL_act_166 : decode cL_act 166 = .ok (.ishr, 1) := by decide +kernel
theorem dL_act_167 : decode cL_act 167 = .ok (.iload_n 2, 1) := by decide +kernel
theorem dL_act_168 : decode cL_act 168 = .ok (.iconst 3, 1) := by decide +kernel
theorem dL_act_169 : decode cL_act 169 = .ok (.ishr, 1) := by decide +kernel
theorem dL_act_170 : decode cL_act 170 = .ok (.iconst 2, 1) := by decide +kernel
theorem dL_act_171 : decode cL_act 171 = .ok (.invokestatic 9, 3) := by decide +kernel
theorem dL_act_174 : decode cL_act 174 = .ok (.ifCond .ne 8, 3) := by decide +kernel
theorem dL_act_177 : decode cL_act 177 = .ok (.bipush 9, 2) := by decide +kernel
theorem dL_act_179 : decode cL_act 179 = .ok (.goto 4, 3) := by decide +kernel
theorem dL_act_182 : decode cL_act 182 = .ok (.iconst 4, 1) := by decide +kernel
theorem dL_act_183 : decode cL_act 183 = .ok (.invokestatic 9, 3) := by decide +kernel
theorem dL_act_186 : decode cL_act 186 = .ok (.iadd, 1) := by decide +kernel
theorem dL_act_187 : decode cL_act 187 = .ok (.istore 8, 2) := by decide +kernel
theorem dL_act_189 : decode cL_act 189 = .ok (.aload 5, 2) := by decide +kernel
theorem dL_act_191 : decode cL_act 191 = .ok (.iconst 0, 1) := by decide +kernel
theorem dL_act_192 : decode cL_act 192 = .ok (.iaload, 1) := by decide +kernel
theorem dL_act_193 : decode cL_act 193 = .ok (.ifCond .ne 18, 3) := by decide +kernel
theorem dL_act_196 : decode cL_act 196 = .ok (.aload_n 1, 1) := by decide +kernel
theorem dL_act_197 : decode cL_act 197 = .ok (.getfield 21, 3) := by decide +kernel
theorem dL_act_200 : decode cL_act 200 = .ok (.iconst 2, 1) := by decide +kernel
theorem dL_act_201 : decode cL_act 201 = .ok (.iload 8, 2) := by decide +kernel
theorem dL_act_203 : decode cL_act 203 = .ok (.imul, 1) := by decide +kernel
theorem dL_act_204 : decode cL_act 204 = .ok (.if_icmp .lt 7, 3) := by decide +kernel
theorem dL_act_207 : decode cL_act 207 = .ok (.iconst 1, 1) := by decide +kernel
theorem dL_act_208 : decode cL_act 208 = .ok (.goto 4, 3) := by decide +kernel
theorem dL_act_211 : decode cL_act 211 = .ok (.iconst 0, 1) := by decide +kernel
theorem dL_act_212 : decode cL_act 212 = .ok (.istore 9, 2) := by decide +kernel
theorem dL_act_214 : decode cL_act 214 = .ok (.aload_n 0, 1) := by decide +kernel
theorem dL_act_215 : decode cL_act 215 = .ok (.iload_n 3, 1) := by decide +kernel
theorem dL_act_216 : decode cL_act 216 = .ok (.iload 4, 2) := by decide +kernel
theorem dL_act_218 : decode cL_act 218 = .ok (.iload 7, 2) := by decide +kernel
theorem dL_act_220 : decode cL_act 220 = .ok (.iload 8, 2) := by decide +kernel
theorem dL_act_222 : decode cL_act 222 = .ok (.invokevirtual 25, 3) := by decide +kernel
theorem dL_act_225 : decode cL_act 225 = .ok (.istore 6, 2) := by decide +kernel
theorem dL_act_227 : decode cL_act 227 = .ok (.goto 8, 3) := by decide +kernel
theorem dL_act_230 : decode cL_act 230 = .ok (.astore 10, 2) := by decide +kernel
theorem dL_act_232 : decode cL_act 232 = .ok (.iconst (-1), 1) := by decide +kernel
theorem dL_act_233 : decode cL_act 233 = .ok (.istore 6, 2) := by decide +kernel
theorem dL_act_235 : decode cL_act 235 = .ok (.iload 9, 2) := by decide +kernel
theorem dL_act_237 : decode cL_act 237 = .ok (.ifCond .eq 46, 3) := by decide +kernel
theorem dL_act_240 : decode cL_act 240 = .ok (.iconst 3, 1) := by decide +kernel
theorem dL_act_241 : decode cL_act 241 = .ok (.newarray .int, 2) := by decide +kernel
theorem dL_act_243 : decode cL_act 243 = .ok (.dup, 1) := by decide +kernel
theorem dL_act_244 : decode cL_act 244 = .ok (.iconst 0, 1) := by decide +kernel
theorem dL_act_245 : decode cL_act 245 = .ok (.iconst 1, 1) := by decide +kernel
theorem dL_act_246 : decode cL_act 246 = .ok (.iastore, 1) := by decide +kernel
theorem dL_act_247 : decode cL_act 247 = .ok (.dup, 1) := by decide +kernel
theorem dL_act_248 : decode cL_act 248 = .ok (.iconst 1, 1) := by decide +kernel
theorem dL_act_249 : decode cL_act 249 = .ok (.iload 7, 2) := by decide +kernel
theorem dL_act_251 : decode cL_act 251 = .ok (.iastore, 1) := by decide +kernel
theorem dL_act_252 : decode cL_act 252 = .ok (.dup, 1) := by decide +kernel
theorem dL_act_253 : decode cL_act 253 = .ok (.iconst 2, 1) := by decide +kernel
theorem dL_act_254 : decode cL_act 254 = .ok (.iload 8, 2) := by decide +kernel
theorem dL_act_256 : decode cL_act 256 = .ok (.iastore, 1) := by decide +kernel
theorem dL_act_257 : decode cL_act 257 = .ok (.astore 10, 2) := by decide +kernel
theorem dL_act_259 : decode cL_act 259 = .ok (.aload_n 1, 1) := by decide +kernel
theorem dL_act_260 : decode cL_act 260 = .ok (.getfield 15, 3) := by decide +kernel
theorem dL_act_263 : decode cL_act 263 = .ok (.iload 4, 2) := by decide +kernel
theorem dL_act_265 : decode cL_act 265 = .ok (.aaload, 1) := by decide +kernel
theorem dL_act_266 : decode cL_act 266 = .ok (.iload_n 3, 1) := by decide +kernel
theorem dL_act_267 : decode cL_act 267 = .ok (.aload 10, 2) := by decide +kernel
theorem dL_act_269 : decode cL_act 269 = .ok (.aastore, 1) := by decide +kernel
theorem dL_act_270 : decode cL_act 270 = .ok (.aload_n 1, 1) := by decide +kernel
theorem dL_act_271 : decode cL_act 271 = .ok (.dup, 1) := by decide +kernel
theorem dL_act_272 : decode cL_act 272 = .ok (.getfield 21, 3) := by decide +kernel
theorem dL_act_275 : decode cL_act 275 = .ok (.iconst 2, 1) := by decide +kernel
theorem dL_act_276 : decode cL_act 276 = .ok (.iload 8, 2) := by decide +kernel
theorem dL_act_278 : decode cL_act 278 = .ok (.imul, 1) := by decide +kernel
theorem dL_act_279 : decode cL_act 279 = .ok (.isub, 1) := by decide +kernel
theorem dL_act_280 : decode cL_act 280 = .ok (.putfield 21, 3) := by decide +kernel
theorem dL_act_283 : decode cL_act 283 = .ok (.iload 6, 2) := by decide +kernel
theorem dL_act_285 : decode cL_act 285 = .ok (.iload 9, 2) := by decide +kernel
theorem dL_act_287 : decode cL_act 287 = .ok (.ifCond .eq 10, 3) := by decide +kernel
theorem dL_act_290 : decode cL_act 290 = .ok (.aload_n 1, 1) := by decide +kernel
theorem dL_act_291 : decode cL_act 291 = .ok (.getfield 21, 3) := by decide +kernel
theorem dL_act_294 : decode cL_act 294 = .ok (.goto 4, 3) := by decide +kernel
theorem dL_act_297 : decode cL_act 297 = .ok (.iconst (-1), 1) := by decide +kernel
theorem dL_act_298 : decode cL_act 298 = .ok (.if_icmp .ne 7, 3) := by decide +kernel
theorem dL_act_301 : decode cL_act 301 = .ok (.iconst 1, 1) := by decide +kernel
theorem dL_act_302 : decode cL_act 302 = .ok (.goto 4, 3) := by decide +kernel
theorem dL_act_305 : decode cL_act 305 = .ok (.iconst 0, 1) := by decide +kernel
theorem dL_act_306 : decode cL_act 306 = .ok (.ireturn, 1) := by decide +kernel
theorem dL_act_307 : decode cL_act 307 = .ok (.aload 5, 2) := by decide +kernel
theorem dL_act_309 : decode cL_act 309 = .ok (.iconst 0, 1) := by decide +kernel
theorem dL_act_310 : decode cL_act 310 = .ok (.iaload, 1) := by decide +kernel
theorem dL_act_311 : decode cL_act 311 = .ok (.ifCond .ne 15, 3) := by decide +kernel
theorem dL_act_314 : decode cL_act 314 = .ok (.aload_n 1, 1) := by decide +kernel
theorem dL_act_315 : decode cL_act 315 = .ok (.getfield 21, 3) := by decide +kernel
theorem dL_act_318 : decode cL_act 318 = .ok (.iconst 5, 1) := by decide +kernel
theorem dL_act_319 : decode cL_act 319 = .ok (.if_icmp .le 7, 3) := by decide +kernel
theorem dL_act_322 : decode cL_act 322 = .ok (.iconst 1, 1) := by decide +kernel
theorem dL_act_323 : decode cL_act 323 = .ok (.goto 4, 3) := by decide +kernel
theorem dL_act_326 : decode cL_act 326 = .ok (.iconst 0, 1) := by decide +kernel
theorem dL_act_327 : decode cL_act 327 = .ok (.istore 7, 2) := by decide +kernel
theorem dL_act_329 : decode cL_act 329 = .ok (.aload_n 0, 1) := by decide +kernel
theorem dL_act_330 : decode cL_act 330 = .ok (.iload_n 3, 1) := by decide +kernel
theorem dL_act_331 : decode cL_act 331 = .ok (.iload 4, 2) := by decide +kernel
theorem dL_act_333 : decode cL_act 333 = .ok (.invokevirtual 33, 3) := by decide +kernel
theorem dL_act_336 : decode cL_act 336 = .ok (.istore 6, 2) := by decide +kernel
theorem dL_act_338 : decode cL_act 338 = .ok (.goto 8, 3) := by decide +kernel
theorem dL_act_341 : decode cL_act 341 = .ok (.astore 8, 2) := by decide +kernel
theorem dL_act_343 : decode cL_act 343 = .ok (.iconst (-1), 1) := by decide +kernel
theorem dL_act_344 : decode cL_act 344 = .ok (.istore 6, 2) := by decide +kernel
theorem dL_act_346 : decode cL_act 346 = .ok (.iload 7, 2) := by decide +kernel
theorem dL_act_348 : decode cL_act 348 = .ok (.ifCond .eq 19, 3) := by decide +kernel
theorem dL_act_351 : decode cL_act 351 = .ok (.aload 5, 2) := by decide +kernel
theorem dL_act_353 : decode cL_act 353 = .ok (.iconst 0, 1) := by decide +kernel
theorem dL_act_354 : decode cL_act 354 = .ok (.iconst 2, 1) := by decide +kernel
theorem dL_act_355 : decode cL_act 355 = .ok (.iastore, 1) := by decide +kernel
theorem dL_act_356 : decode cL_act 356 = .ok (.aload_n 1, 1) := by decide +kernel
theorem dL_act_357 : decode cL_act 357 = .ok (.dup, 1) := by decide +kernel
theorem dL_act_358 : decode cL_act 358 = .ok (.getfield 21, 3) := by decide +kernel
theorem dL_act_361 : decode cL_act 361 = .ok (.bipush 6, 2) := by decide +kernel
theorem dL_act_363 : decode cL_act 363 = .ok (.isub, 1) := by decide +kernel
theorem dL_act_364 : decode cL_act 364 = .ok (.putfield 21, 3) := by decide +kernel
theorem dL_act_367 : decode cL_act 367 = .ok (.iload 6, 2) := by decide +kernel
theorem dL_act_369 : decode cL_act 369 = .ok (.iload 7, 2) := by decide +kernel
theorem dL_act_371 : decode cL_act 371 = .ok (.ifCond .eq 16, 3) := by decide +kernel
theorem dL_act_374 : decode cL_act 374 = .ok (.aload_n 1, 1) := by decide +kernel
theorem dL_act_375 : decode cL_act 375 = .ok (.iload_n 3, 1) := by decide +kernel
theorem dL_act_376 : decode cL_act 376 = .ok (.iload 4, 2) := by decide +kernel
theorem dL_act_378 : decode cL_act 378 = .ok (.invokevirtual 36, 3) := by decide +kernel
theorem dL_act_381 : decode cL_act 381 = .ok (.invokestatic 40, 3) := by decide +kernel
theorem dL_act_384 : decode cL_act 384 = .ok (.goto 4, 3) := by decide +kernel
theorem dL_act_387 : decode cL_act 387 = .ok (.iconst (-1), 1) := by decide +kernel
theorem dL_act_388 : decode cL_act 388 = .ok (.if_icmp .ne 7, 3) := by decide +kernel
theorem dL_act_391 : decode cL_act 391 = .ok (.iconst 1, 1) := by decide +kernel
theorem dL_act_392 : decode cL_act 392 = .ok (.goto 4, 3) := by decide +kernel
theorem dL_act_395 : decode cL_act 395 = .ok (.iconst 0, 1) := by decide +kernel
theorem dL_act_396 : decode cL_act 396 = .ok (.ireturn, 1) := by decide +kernel
theorem dL_act_397 : decode cL_act 397 = .ok (.aload 5, 2) := by decide +kernel
theorem dL_act_399 : decode cL_act 399 = .ok (.iconst 0, 1) := by decide +kernel
theorem dL_act_400 : decode cL_act 400 = .ok (.iaload, 1) := by decide +kernel
theorem dL_act_401 : decode cL_act 401 = .ok (.ifCond .ne 15, 3) := by decide +kernel
theorem dL_act_404 : decode cL_act 404 = .ok (.aload_n 1, 1) := by decide +kernel
theorem dL_act_405 : decode cL_act 405 = .ok (.getfield 21, 3) := by decide +kernel
theorem dL_act_408 : decode cL_act 408 = .ok (.iconst 2, 1) := by decide +kernel
theorem dL_act_409 : decode cL_act 409 = .ok (.if_icmp .le 7, 3) := by decide +kernel
theorem dL_act_412 : decode cL_act 412 = .ok (.iconst 1, 1) := by decide +kernel
theorem dL_act_413 : decode cL_act 413 = .ok (.goto 4, 3) := by decide +kernel
theorem dL_act_416 : decode cL_act 416 = .ok (.iconst 0, 1) := by decide +kernel
theorem dL_act_417 : decode cL_act 417 = .ok (.istore 7, 2) := by decide +kernel
theorem dL_act_419 : decode cL_act 419 = .ok (.aload_n 0, 1) := by decide +kernel
theorem dL_act_420 : decode cL_act 420 = .ok (.iload_n 3, 1) := by decide +kernel
theorem dL_act_421 : decode cL_act 421 = .ok (.iload 4, 2) := by decide +kernel
theorem dL_act_423 : decode cL_act 423 = .ok (.invokevirtual 44, 3) := by decide +kernel
theorem dL_act_426 : decode cL_act 426 = .ok (.istore 6, 2) := by decide +kernel
theorem dL_act_428 : decode cL_act 428 = .ok (.goto 8, 3) := by decide +kernel
theorem dL_act_431 : decode cL_act 431 = .ok (.astore 8, 2) := by decide +kernel
theorem dL_act_433 : decode cL_act 433 = .ok (.iconst (-1), 1) := by decide +kernel
theorem dL_act_434 : decode cL_act 434 = .ok (.istore 6, 2) := by decide +kernel
theorem dL_act_436 : decode cL_act 436 = .ok (.iload 7, 2) := by decide +kernel
theorem dL_act_438 : decode cL_act 438 = .ok (.ifCond .eq 18, 3) := by decide +kernel
theorem dL_act_441 : decode cL_act 441 = .ok (.aload 5, 2) := by decide +kernel
theorem dL_act_443 : decode cL_act 443 = .ok (.iconst 0, 1) := by decide +kernel
theorem dL_act_444 : decode cL_act 444 = .ok (.iconst 3, 1) := by decide +kernel
theorem dL_act_445 : decode cL_act 445 = .ok (.iastore, 1) := by decide +kernel
theorem dL_act_446 : decode cL_act 446 = .ok (.aload_n 1, 1) := by decide +kernel
theorem dL_act_447 : decode cL_act 447 = .ok (.dup, 1) := by decide +kernel
theorem dL_act_448 : decode cL_act 448 = .ok (.getfield 21, 3) := by decide +kernel
theorem dL_act_451 : decode cL_act 451 = .ok (.iconst 3, 1) := by decide +kernel
theorem dL_act_452 : decode cL_act 452 = .ok (.isub, 1) := by decide +kernel
theorem dL_act_453 : decode cL_act 453 = .ok (.putfield 21, 3) := by decide +kernel
theorem dL_act_456 : decode cL_act 456 = .ok (.iload 6, 2) := by decide +kernel
theorem dL_act_458 : decode cL_act 458 = .ok (.iload 7, 2) := by decide +kernel
theorem dL_act_460 : decode cL_act 460 = .ok (.ifCond .eq 10, 3) := by decide +kernel
theorem dL_act_463 : decode cL_act 463 = .ok (.aload_n 1, 1) := by decide +kernel
theorem dL_act_464 : decode cL_act 464 = .ok (.getfield 21, 3) := by decide +kernel
theorem dL_act_467 : decode cL_act 467 = .ok (.goto 4, 3) := by decide +kernel
theorem dL_act_470 : decode cL_act 470 = .ok (.iconst (-1), 1) := by decide +kernel
theorem dL_act_471 : decode cL_act 471 = .ok (.if_icmp .ne 7, 3) := by decide +kernel
theorem dL_act_474 : decode cL_act 474 = .ok (.iconst 1, 1) := by decide +kernel
theorem dL_act_475 : decode cL_act 475 = .ok (.goto 4, 3) := by decide +kernel
theorem dL_act_478 : decode cL_act 478 = .ok (.iconst 0, 1) := by decide +kernel
theorem dL_act_479 : decode cL_act 479 = .ok (.ireturn, 1) := by decide +kernel
theorem dL_act_480 : decode cL_act 480 = .ok (.aload 5, 2) := by decide +kernel
theorem dL_act_482 : decode cL_act 482 = .ok (.iconst 0, 1) := by decide +kernel
theorem dL_act_483 : decode cL_act 483 = .ok (.iaload, 1) := by decide +kernel
theorem dL_act_484 : decode cL_act 484 = .ok (.ifCond .eq 7, 3) := by decide +kernel
theorem dL_act_487 : decode cL_act 487 = .ok (.iconst 1, 1) := by decide +kernel
theorem dL_act_488 : decode cL_act 488 = .ok (.goto 4, 3) := by decide +kernel
theorem dL_act_491 : decode cL_act 491 = .ok (.iconst 0, 1) := by decide +kernel
theorem dL_act_492 : decode cL_act 492 = .ok (.istore 7, 2) := by decide +kernel
theorem dL_act_494 : decode cL_act 494 = .ok (.aload_n 1, 1) := by decide +kernel
theorem dL_act_495 : decode cL_act 495 = .ok (.getfield 47, 3) := by decide +kernel
theorem dL_act_498 : decode cL_act 498 = .ok (.astore 8, 2) := by decide +kernel
theorem dL_act_500 : decode cL_act 500 = .ok (.aload 8, 2) := by decide +kernel
theorem dL_act_502 : decode cL_act 502 = .ok (.arraylength, 1) := by decide +kernel
theorem dL_act_503 : decode cL_act 503 = .ok (.istore 9, 2) := by decide +kernel
theorem dL_act_505 : decode cL_act 505 = .ok (.iconst 0, 1) := by decide +kernel
theorem dL_act_506 : decode cL_act 506 = .ok (.istore 10, 2) := by decide +kernel
theorem dL_act_508 : decode cL_act 508 = .ok (.iload 10, 2) := by decide +kernel
theorem dL_act_510 : decode cL_act 510 = .ok (.iload 9, 2) := by decide +kernel
theorem dL_act_512 : decode cL_act 512 = .ok (.if_icmp .ge 51, 3) := by decide +kernel
theorem dL_act_515 : decode cL_act 515 = .ok (.aload 8, 2) := by decide +kernel
theorem dL_act_517 : decode cL_act 517 = .ok (.iload 10, 2) := by decide +kernel
theorem dL_act_519 : decode cL_act 519 = .ok (.aaload, 1) := by decide +kernel
theorem dL_act_520 : decode cL_act 520 = .ok (.astore 11, 2) := by decide +kernel
theorem dL_act_522 : decode cL_act 522 = .ok (.iload 7, 2) := by decide +kernel
theorem dL_act_524 : decode cL_act 524 = .ok (.aload 11, 2) := by decide +kernel
theorem dL_act_526 : decode cL_act 526 = .ok (.iconst 3, 1) := by decide +kernel
theorem dL_act_527 : decode cL_act 527 = .ok (.iaload, 1) := by decide +kernel
theorem dL_act_528 : decode cL_act 528 = .ok (.iconst 1, 1) := by decide +kernel
theorem dL_act_529 : decode cL_act 529 = .ok (.if_icmp .eq 20, 3) := by decide +kernel
theorem dL_act_532 : decode cL_act 532 = .ok (.aload 11, 2) := by decide +kernel
theorem dL_act_534 : decode cL_act 534 = .ok (.iconst 0, 1) := by decide +kernel
theorem dL_act_535 : decode cL_act 535 = .ok (.iaload, 1) := by decide +kernel
theorem dL_act_536 : decode cL_act 536 = .ok (.iload_n 3, 1) := by decide +kernel
theorem dL_act_537 : decode cL_act 537 = .ok (.if_icmp .ne 12, 3) := by decide +kernel
theorem dL_act_540 : decode cL_act 540 = .ok (.aload 11, 2) := by decide +kernel
theorem dL_act_542 : decode cL_act 542 = .ok (.iconst 1, 1) := by decide +kernel
theorem dL_act_543 : decode cL_act 543 = .ok (.iaload, 1) := by decide +kernel
theorem dL_act_544 : decode cL_act 544 = .ok (.iload 4, 2) := by decide +kernel
theorem dL_act_546 : decode cL_act 546 = .ok (.if_icmp .eq 7, 3) := by decide +kernel
theorem dL_act_549 : decode cL_act 549 = .ok (.iconst 1, 1) := by decide +kernel
theorem dL_act_550 : decode cL_act 550 = .ok (.goto 4, 3) := by decide +kernel
theorem dL_act_553 : decode cL_act 553 = .ok (.iconst 0, 1) := by decide +kernel
theorem dL_act_554 : decode cL_act 554 = .ok (.iand, 1) := by decide +kernel
theorem dL_act_555 : decode cL_act 555 = .ok (.istore 7, 2) := by decide +kernel
theorem dL_act_557 : decode cL_act 557 = .ok (.iinc 10 1, 3) := by decide +kernel
theorem dL_act_560 : decode cL_act 560 = .ok (.goto (-52), 3) := by decide +kernel
theorem dL_act_563 : decode cL_act 563 = .ok (.aload_n 0, 1) := by decide +kernel
theorem dL_act_564 : decode cL_act 564 = .ok (.iload_n 3, 1) := by decide +kernel
theorem dL_act_565 : decode cL_act 565 = .ok (.iload 4, 2) := by decide +kernel
theorem dL_act_567 : decode cL_act 567 = .ok (.invokevirtual 51, 3) := by decide +kernel
theorem dL_act_570 : decode cL_act 570 = .ok (.istore 6, 2) := by decide +kernel
theorem dL_act_572 : decode cL_act 572 = .ok (.goto 8, 3) := by decide +kernel
theorem dL_act_575 : decode cL_act 575 = .ok (.astore 8, 2) := by decide +kernel
theorem dL_act_577 : decode cL_act 577 = .ok (.iconst (-1), 1) := by decide +kernel
theorem dL_act_578 : decode cL_act 578 = .ok (.istore 6, 2) := by decide +kernel
theorem dL_act_580 : decode cL_act 580 = .ok (.iload 7, 2) := by decide +kernel
theorem dL_act_582 : decode cL_act 582 = .ok (.ifCond .eq 33, 3) := by decide +kernel
theorem dL_act_585 : decode cL_act 585 = .ok (.aload_n 1, 1) := by decide +kernel
theorem dL_act_586 : decode cL_act 586 = .ok (.dup, 1) := by decide +kernel
theorem dL_act_587 : decode cL_act 587 = .ok (.getfield 21, 3) := by decide +kernel
theorem dL_act_590 : decode cL_act 590 = .ok (.aload 5, 2) := by decide +kernel
theorem dL_act_592 : decode cL_act 592 = .ok (.iconst 0, 1) := by decide +kernel
theorem dL_act_593 : decode cL_act 593 = .ok (.iaload, 1) := by decide +kernel
theorem dL_act_594 : decode cL_act 594 = .ok (.iconst 1, 1) := by decide +kernel
theorem dL_act_595 : decode cL_act 595 = .ok (.if_icmp .ne 10, 3) := by decide +kernel
theorem dL_act_598 : decode cL_act 598 = .ok (.aload 5, 2) := by decide +kernel
theorem dL_act_600 : decode cL_act 600 = .ok (.iconst 2, 1) := by decide +kernel
theorem dL_act_601 : decode cL_act 601 = .ok (.iaload, 1) := by decide +kernel
theorem dL_act_602 : decode cL_act 602 = .ok (.goto 4, 3) := by decide +kernel
theorem dL_act_605 : decode cL_act 605 = .ok (.iconst 0, 1) := by decide +kernel
theorem dL_act_606 : decode cL_act 606 = .ok (.iadd, 1) := by decide +kernel
theorem dL_act_607 : decode cL_act 607 = .ok (.putfield 21, 3) := by decide +kernel
theorem dL_act_610 : decode cL_act 610 = .ok (.aload 5, 2) := by decide +kernel
theorem dL_act_612 : decode cL_act 612 = .ok (.iconst 0, 1) := by decide +kernel
theorem dL_act_613 : decode cL_act 613 = .ok (.iconst 0, 1) := by decide +kernel
theorem dL_act_614 : decode cL_act 614 = .ok (.iastore, 1) := by decide +kernel
theorem dL_act_615 : decode cL_act 615 = .ok (.iload 6, 2) := by decide +kernel
theorem dL_act_617 : decode cL_act 617 = .ok (.iload 7, 2) := by decide +kernel
theorem dL_act_619 : decode cL_act 619 = .ok (.ifCond .eq 10, 3) := by decide +kernel
theorem dL_act_622 : decode cL_act 622 = .ok (.aload_n 1, 1) := by decide +kernel
theorem dL_act_623 : decode cL_act 623 = .ok (.getfield 21, 3) := by decide +kernel
theorem dL_act_626 : decode cL_act 626 = .ok (.goto 4, 3) := by decide +kernel
theorem dL_act_629 : decode cL_act 629 = .ok (.iconst (-1), 1) := by decide +kernel
theorem dL_act_630 : decode cL_act 630 = .ok (.if_icmp .ne 7, 3) := by decide +kernel
theorem dL_act_633 : decode cL_act 633 = .ok (.iconst 1, 1) := by decide +kernel
theorem dL_act_634 : decode cL_act 634 = .ok (.goto 4, 3) := by decide +kernel
theorem dL_act_637 : decode cL_act 637 = .ok (.iconst 0, 1) := by decide +kernel
theorem dL_act_638 : decode cL_act 638 = .ok (.ireturn, 1) := by decide +kernel
theorem dL_act_639 : decode cL_act 639 = .ok (.aload 5, 2) := by decide +kernel
theorem dL_act_641 : decode cL_act 641 = .ok (.iconst 0, 1) := by decide +kernel
theorem dL_act_642 : decode cL_act 642 = .ok (.iaload, 1) := by decide +kernel
theorem dL_act_643 : decode cL_act 643 = .ok (.iconst 2, 1) := by decide +kernel
theorem dL_act_644 : decode cL_act 644 = .ok (.if_icmp .ne 25, 3) := by decide +kernel
theorem dL_act_647 : decode cL_act 647 = .ok (.aload_n 1, 1) := by decide +kernel
theorem dL_act_648 : decode cL_act 648 = .ok (.getfield 21, 3) := by decide +kernel
theorem dL_act_651 : decode cL_act 651 = .ok (.iconst 3, 1) := by decide +kernel
theorem dL_act_652 : decode cL_act 652 = .ok (.if_icmp .le 17, 3) := by decide +kernel
theorem dL_act_655 : decode cL_act 655 = .ok (.aload_n 1, 1) := by decide +kernel
theorem dL_act_656 : decode cL_act 656 = .ok (.getfield 47, 3) := by decide +kernel
theorem dL_act_659 : decode cL_act 659 = .ok (.arraylength, 1) := by decide +kernel
theorem dL_act_660 : decode cL_act 660 = .ok (.bipush 30, 2) := by decide +kernel
theorem dL_act_662 : decode cL_act 662 = .ok (.if_icmp .ge 7, 3) := by decide +kernel
theorem dL_act_665 : decode cL_act 665 = .ok (.iconst 1, 1) := by decide +kernel
theorem dL_act_666 : decode cL_act 666 = .ok (.goto 4, 3) := by decide +kernel
theorem dL_act_669 : decode cL_act 669 = .ok (.iconst 0, 1) := by decide +kernel
theorem dL_act_670 : decode cL_act 670 = .ok (.istore 7, 2) := by decide +kernel
theorem dL_act_672 : decode cL_act 672 = .ok (.aload_n 0, 1) := by decide +kernel
theorem dL_act_673 : decode cL_act 673 = .ok (.iload_n 3, 1) := by decide +kernel
theorem dL_act_674 : decode cL_act 674 = .ok (.iload 4, 2) := by decide +kernel
theorem dL_act_676 : decode cL_act 676 = .ok (.invokevirtual 54, 3) := by decide +kernel
theorem dL_act_679 : decode cL_act 679 = .ok (.istore 6, 2) := by decide +kernel
theorem dL_act_681 : decode cL_act 681 = .ok (.goto 8, 3) := by decide +kernel
theorem dL_act_684 : decode cL_act 684 = .ok (.astore 8, 2) := by decide +kernel
theorem dL_act_686 : decode cL_act 686 = .ok (.iconst (-1), 1) := by decide +kernel
theorem dL_act_687 : decode cL_act 687 = .ok (.istore 6, 2) := by decide +kernel
theorem dL_act_689 : decode cL_act 689 = .ok (.iload 6, 2) := by decide +kernel
theorem dL_act_691 : decode cL_act 691 = .ok (.iload 7, 2) := by decide +kernel
theorem dL_act_693 : decode cL_act 693 = .ok (.ifCond .eq 11, 3) := by decide +kernel
theorem dL_act_696 : decode cL_act 696 = .ok (.aload_n 1, 1) := by decide +kernel
theorem dL_act_697 : decode cL_act 697 = .ok (.getfield 47, 3) := by decide +kernel
theorem dL_act_700 : decode cL_act 700 = .ok (.arraylength, 1) := by decide +kernel
theorem dL_act_701 : decode cL_act 701 = .ok (.goto 4, 3) := by decide +kernel
theorem dL_act_704 : decode cL_act 704 = .ok (.iconst (-1), 1) := by decide +kernel
theorem dL_act_705 : decode cL_act 705 = .ok (.if_icmp .eq 5, 3) := by decide +kernel
theorem dL_act_708 : decode cL_act 708 = .ok (.iconst 0, 1) := by decide +kernel
theorem dL_act_709 : decode cL_act 709 = .ok (.ireturn, 1) := by decide +kernel
theorem dL_act_710 : decode cL_act 710 = .ok (.iload 7, 2) := by decide +kernel
theorem dL_act_712 : decode cL_act 712 = .ok (.ifCond .ne 5, 3) := by decide +kernel
theorem dL_act_715 : decode cL_act 715 = .ok (.iconst 1, 1) := by decide +kernel
theorem dL_act_716 : decode cL_act 716 = .ok (.ireturn, 1) := by decide +kernel
theorem dL_act_717 : decode cL_act 717 = .ok (.iconst 4, 1) := by decide +kernel
theorem dL_act_718 : decode cL_act 718 = .ok (.newarray .int, 2) := by decide +kernel
theorem dL_act_720 : decode cL_act 720 = .ok (.dup, 1) := by decide +kernel
theorem dL_act_721 : decode cL_act 721 = .ok (.iconst 0, 1) := by decide +kernel
theorem dL_act_722 : decode cL_act 722 = .ok (.iload_n 3, 1) := by decide +kernel
theorem dL_act_723 : decode cL_act 723 = .ok (.iastore, 1) := by decide +kernel
theorem dL_act_724 : decode cL_act 724 = .ok (.dup, 1) := by decide +kernel
theorem dL_act_725 : decode cL_act 725 = .ok (.iconst 1, 1) := by decide +kernel
theorem dL_act_726 : decode cL_act 726 = .ok (.iload 4, 2) := by decide +kernel
theorem dL_act_728 : decode cL_act 728 = .ok (.iastore, 1) := by decide +kernel
theorem dL_act_729 : decode cL_act 729 = .ok (.dup, 1) := by decide +kernel
theorem dL_act_730 : decode cL_act 730 = .ok (.iconst 2, 1) := by decide +kernel
theorem dL_act_731 : decode cL_act 731 = .ok (.iconst 1, 1) := by decide +kernel
theorem dL_act_732 : decode cL_act 732 = .ok (.iastore, 1) := by decide +kernel
theorem dL_act_733 : decode cL_act 733 = .ok (.dup, 1) := by decide +kernel
theorem dL_act_734 : decode cL_act 734 = .ok (.iconst 3, 1) := by decide +kernel
theorem dL_act_735 : decode cL_act 735 = .ok (.iconst 0, 1) := by decide +kernel
theorem dL_act_736 : decode cL_act 736 = .ok (.iastore, 1) := by decide +kernel
theorem dL_act_737 : decode cL_act 737 = .ok (.astore 8, 2) := by decide +kernel
theorem dL_act_739 : decode cL_act 739 = .ok (.aload_n 1, 1) := by decide +kernel
theorem dL_act_740 : decode cL_act 740 = .ok (.aload_n 1, 1) := by decide +kernel
theorem dL_act_741 : decode cL_act 741 = .ok (.getfield 47, 3) := by decide +kernel
theorem dL_act_744 : decode cL_act 744 = .ok (.aload 8, 2) := by decide +kernel
theorem dL_act_746 : decode cL_act 746 = .ok (.invokestatic 57, 3) := by decide +kernel
theorem dL_act_749 : decode cL_act 749 = .ok (.putfield 47, 3) := by decide +kernel
theorem dL_act_752 : decode cL_act 752 = .ok (.aload_n 1, 1) := by decide +kernel
theorem dL_act_753 : decode cL_act 753 = .ok (.dup, 1) := by decide +kernel
theorem dL_act_754 : decode cL_act 754 = .ok (.getfield 21, 3) := by decide +kernel
theorem dL_act_757 : decode cL_act 757 = .ok (.iconst 4, 1) := by decide +kernel
theorem dL_act_758 : decode cL_act 758 = .ok (.isub, 1) := by decide +kernel
theorem dL_act_759 : decode cL_act 759 = .ok (.putfield 21, 3) := by decide +kernel
theorem dL_act_762 : decode cL_act 762 = .ok (.iconst 1, 1) := by decide +kernel
theorem dL_act_763 : decode cL_act 763 = .ok (.ireturn, 1) := by decide +kernel
theorem dL_act_764 : decode cL_act 764 = .ok (.aload_n 1, 1) := by decide +kernel
theorem dL_act_765 : decode cL_act 765 = .ok (.getfield 47, 3) := by decide +kernel
theorem dL_act_768 : decode cL_act 768 = .ok (.arraylength, 1) := by decide +kernel
theorem dL_act_769 : decode cL_act 769 = .ok (.ifCond .eq 14, 3) := by decide +kernel
theorem dL_act_772 : decode cL_act 772 = .ok (.iload_n 2, 1) := by decide +kernel
theorem dL_act_773 : decode cL_act 773 = .ok (.bipush 7, 2) := by decide +kernel
theorem dL_act_775 : decode cL_act 775 = .ok (.ishr, 1) := by decide +kernel
theorem dL_act_776 : decode cL_act 776 = .ok (.iconst 3, 1) := by decide +kernel
theorem dL_act_777 : decode cL_act 777 = .ok (.invokestatic 9, 3) := by decide +kernel
theorem dL_act_780 : decode cL_act 780 = .ok (.ifCond .le 5, 3) := by decide +kernel
theorem dL_act_783 : decode cL_act 783 = .ok (.iconst 1, 1) := by decide +kernel
theorem dL_act_784 : decode cL_act 784 = .ok (.ireturn, 1) := by decide +kernel
theorem dL_act_785 : decode cL_act 785 = .ok (.iload_n 2, 1) := by decide +kernel
theorem dL_act_786 : decode cL_act 786 = .ok (.iconst 4, 1) := by decide +kernel
theorem dL_act_787 : decode cL_act 787 = .ok (.ishr, 1) := by decide +kernel
theorem dL_act_788 : decode cL_act 788 = .ok (.aload_n 1, 1) := by decide +kernel
theorem dL_act_789 : decode cL_act 789 = .ok (.getfield 47, 3) := by decide +kernel
theorem dL_act_792 : decode cL_act 792 = .ok (.arraylength, 1) := by decide +kernel
theorem dL_act_793 : decode cL_act 793 = .ok (.invokestatic 9, 3) := by decide +kernel
theorem dL_act_796 : decode cL_act 796 = .ok (.istore 7, 2) := by decide +kernel
theorem dL_act_798 : decode cL_act 798 = .ok (.aload_n 1, 1) := by decide +kernel
theorem dL_act_799 : decode cL_act 799 = .ok (.getfield 47, 3) := by decide +kernel
theorem dL_act_802 : decode cL_act 802 = .ok (.iload 7, 2) := by decide +kernel
theorem dL_act_804 : decode cL_act 804 = .ok (.aaload, 1) := by decide +kernel
theorem dL_act_805 : decode cL_act 805 = .ok (.astore 8, 2) := by decide +kernel
theorem dL_act_807 : decode cL_act 807 = .ok (.aload 8, 2) := by decide +kernel
theorem dL_act_809 : decode cL_act 809 = .ok (.iconst 3, 1) := by decide +kernel
theorem dL_act_810 : decode cL_act 810 = .ok (.iaload, 1) := by decide +kernel
theorem dL_act_811 : decode cL_act 811 = .ok (.ifCond .ne 7, 3) := by decide +kernel
theorem dL_act_814 : decode cL_act 814 = .ok (.iconst 1, 1) := by decide +kernel
theorem dL_act_815 : decode cL_act 815 = .ok (.goto 4, 3) := by decide +kernel
theorem dL_act_818 : decode cL_act 818 = .ok (.iconst 0, 1) := by decide +kernel
theorem dL_act_819 : decode cL_act 819 = .ok (.istore 9, 2) := by decide +kernel
theorem dL_act_821 : decode cL_act 821 = .ok (.aload_n 0, 1) := by decide +kernel
theorem dL_act_822 : decode cL_act 822 = .ok (.iload 7, 2) := by decide +kernel
theorem dL_act_824 : decode cL_act 824 = .ok (.invokevirtual 61, 3) := by decide +kernel
theorem dL_act_827 : decode cL_act 827 = .ok (.istore 6, 2) := by decide +kernel
theorem dL_act_829 : decode cL_act 829 = .ok (.goto 8, 3) := by decide +kernel
theorem dL_act_832 : decode cL_act 832 = .ok (.astore 10, 2) := by decide +kernel
theorem dL_act_834 : decode cL_act 834 = .ok (.iconst (-1), 1) := by decide +kernel
theorem dL_act_835 : decode cL_act 835 = .ok (.istore 6, 2) := by decide +kernel
theorem dL_act_837 : decode cL_act 837 = .ok (.iload 9, 2) := by decide +kernel
theorem dL_act_839 : decode cL_act 839 = .ok (.ifCond .eq 25, 3) := by decide +kernel
theorem dL_act_842 : decode cL_act 842 = .ok (.aload 8, 2) := by decide +kernel
theorem dL_act_844 : decode cL_act 844 = .ok (.iconst 3, 1) := by decide +kernel
theorem dL_act_845 : decode cL_act 845 = .ok (.iconst 1, 1) := by decide +kernel
theorem dL_act_846 : decode cL_act 846 = .ok (.iastore, 1) := by decide +kernel
theorem dL_act_847 : decode cL_act 847 = .ok (.aload_n 1, 1) := by decide +kernel
theorem dL_act_848 : decode cL_act 848 = .ok (.dup, 1) := by decide +kernel
theorem dL_act_849 : decode cL_act 849 = .ok (.getfield 21, 3) := by decide +kernel
theorem dL_act_852 : decode cL_act 852 = .ok (.aload 8, 2) := by decide +kernel
theorem dL_act_854 : decode cL_act 854 = .ok (.iconst 2, 1) := by decide +kernel
theorem dL_act_855 : decode cL_act 855 = .ok (.iaload, 1) := by decide +kernel
theorem dL_act_856 : decode cL_act 856 = .ok (.iconst 2, 1) := by decide +kernel
theorem dL_act_857 : decode cL_act 857 = .ok (.idiv, 1) := by decide +kernel
theorem dL_act_858 : decode cL_act 858 = .ok (.iconst 1, 1) := by decide +kernel
theorem dL_act_859 : decode cL_act 859 = .ok (.iadd, 1) := by decide +kernel
theorem dL_act_860 : decode cL_act 860 = .ok (.iadd, 1) := by decide +kernel
theorem dL_act_861 : decode cL_act 861 = .ok (.putfield 21, 3) := by decide +kernel
theorem dL_act_864 : decode cL_act 864 = .ok (.iload 6, 2) := by decide +kernel
theorem dL_act_866 : decode cL_act 866 = .ok (.iload 9, 2) := by decide +kernel
theorem dL_act_868 : decode cL_act 868 = .ok (.ifCond .eq 10, 3) := by decide +kernel
theorem dL_act_871 : decode cL_act 871 = .ok (.aload_n 1, 1) := by decide +kernel
theorem dL_act_872 : decode cL_act 872 = .ok (.getfield 21, 3) := by decide +kernel
theorem dL_act_875 : decode cL_act 875 = .ok (.goto 4, 3) := by decide +kernel
theorem dL_act_878 : decode cL_act 878 = .ok (.iconst (-1), 1) := by decide +kernel
theorem dL_act_879 : decode cL_act 879 = .ok (.if_icmp .ne 7, 3) := by decide +kernel
theorem dL_act_882 : decode cL_act 882 = .ok (.iconst 1, 1) := by decide +kernel
theorem dL_act_883 : decode cL_act 883 = .ok (.goto 4, 3) := by decide +kernel
theorem dL_act_886 : decode cL_act 886 = .ok (.iconst 0, 1) := by decide +kernel
theorem dL_act_887 : decode cL_act 887 = .ok (.ireturn, 1) := by decide +kernel
theorem dL_act_888 : decode cL_act 888 = .ok (.iconst 3, 1) := by decide +kernel
theorem dL_act_889 : decode cL_act 889 = .ok (.newarray .int, 2) := by decide +kernel
theorem dL_act_891 : decode cL_act 891 = .ok (.dup, 1) := by decide +kernel
theorem dL_act_892 : decode cL_act 892 = .ok (.iconst 0, 1) := by decide +kernel
theorem dL_act_893 : decode cL_act 893 = .ok (.iload_n 3, 1) := by decide +kernel
theorem dL_act_894 : decode cL_act 894 = .ok (.iastore, 1) := by decide +kernel
theorem dL_act_895 : decode cL_act 895 = .ok (.dup, 1) := by decide +kernel
theorem dL_act_896 : decode cL_act 896 = .ok (.iconst 1, 1) := by decide +kernel
theorem dL_act_897 : decode cL_act 897 = .ok (.iload 4, 2) := by decide +kernel
theorem dL_act_899 : decode cL_act 899 = .ok (.iastore, 1) := by decide +kernel
theorem dL_act_900 : decode cL_act 900 = .ok (.dup, 1) := by decide +kernel
theorem dL_act_901 : decode cL_act 901 = .ok (.iconst 2, 1) := by decide +kernel
theorem dL_act_902 : decode cL_act 902 = .ok (.iload_n 2, 1) := by decide +kernel
theorem dL_act_903 : decode cL_act 903 = .ok (.iconst 5, 1) := by decide +kernel
theorem dL_act_904 : decode cL_act 904 = .ok (.ishr, 1) := by decide +kernel
theorem dL_act_905 : decode cL_act 905 = .ok (.iconst 4, 1) := by decide +kernel
theorem dL_act_906 : decode cL_act 906 = .ok (.invokestatic 9, 3) := by decide +kernel
theorem dL_act_909 : decode cL_act 909 = .ok (.iastore, 1) := by decide +kernel
theorem dL_act_910 : decode cL_act 910 = .ok (.astore 7, 2) := by decide +kernel
theorem dL_act_912 : decode cL_act 912 = .ok (.aload_n 1, 1) := by decide +kernel
theorem dL_act_913 : decode cL_act 913 = .ok (.getfield 65, 3) := by decide +kernel
theorem dL_act_916 : decode cL_act 916 = .ok (.arraylength, 1) := by decide +kernel
theorem dL_act_917 : decode cL_act 917 = .ok (.istore 8, 2) := by decide +kernel
theorem dL_act_919 : decode cL_act 919 = .ok (.aload_n 0, 1) := by decide +kernel
theorem dL_act_920 : decode cL_act 920 = .ok (.iload_n 3, 1) := by decide +kernel
theorem dL_act_921 : decode cL_act 921 = .ok (.iload 4, 2) := by decide +kernel
theorem dL_act_923 : decode cL_act 923 = .ok (.aload 7, 2) := by decide +kernel
theorem dL_act_925 : decode cL_act 925 = .ok (.iconst 2, 1) := by decide +kernel
theorem dL_act_926 : decode cL_act 926 = .ok (.iaload, 1) := by decide +kernel
theorem dL_act_927 : decode cL_act 927 = .ok (.invokevirtual 68, 3) := by decide +kernel
theorem dL_act_930 : decode cL_act 930 = .ok (.istore 6, 2) := by decide +kernel
theorem dL_act_932 : decode cL_act 932 = .ok (.goto 8, 3) := by decide +kernel
theorem dL_act_935 : decode cL_act 935 = .ok (.astore 9, 2) := by decide +kernel
theorem dL_act_937 : decode cL_act 937 = .ok (.iconst (-1), 1) := by decide +kernel
theorem dL_act_938 : decode cL_act 938 = .ok (.istore 6, 2) := by decide +kernel
theorem dL_act_940 : decode cL_act 940 = .ok (.iload 6, 2) := by decide +kernel
theorem dL_act_942 : decode cL_act 942 = .ok (.iload 8, 2) := by decide +kernel
theorem dL_act_944 : decode cL_act 944 = .ok (.bipush 6, 2) := by decide +kernel
theorem dL_act_946 : decode cL_act 946 = .ok (.if_icmp .ge 8, 3) := by decide +kernel
theorem dL_act_949 : decode cL_act 949 = .ok (.iload 8, 2) := by decide +kernel
theorem dL_act_951 : decode cL_act 951 = .ok (.goto 4, 3) := by decide +kernel
theorem dL_act_954 : decode cL_act 954 = .ok (.iconst (-1), 1) := by decide +kernel
theorem dL_act_955 : decode cL_act 955 = .ok (.if_icmp .eq 5, 3) := by decide +kernel
theorem dL_act_958 : decode cL_act 958 = .ok (.iconst 0, 1) := by decide +kernel
theorem dL_act_959 : decode cL_act 959 = .ok (.ireturn, 1) := by decide +kernel
theorem dL_act_960 : decode cL_act 960 = .ok (.iload 6, 2) := by decide +kernel
theorem dL_act_962 : decode cL_act 962 = .ok (.ifCond .lt 16, 3) := by decide +kernel
theorem dL_act_965 : decode cL_act 965 = .ok (.aload_n 1, 1) := by decide +kernel
theorem dL_act_966 : decode cL_act 966 = .ok (.aload_n 1, 1) := by decide +kernel
theorem dL_act_967 : decode cL_act 967 = .ok (.getfield 65, 3) := by decide +kernel
theorem dL_act_970 : decode cL_act 970 = .ok (.aload 7, 2) := by decide +kernel
theorem dL_act_972 : decode cL_act 972 = .ok (.invokestatic 57, 3) := by decide +kernel
theorem dL_act_975 : decode cL_act 975 = .ok (.putfield 65, 3) := by decide +kernel
theorem dL_act_978 : decode cL_act 978 = .ok (.iconst 1, 1) := by decide +kernel
theorem dL_act_979 : decode cL_act 979 = .ok (.ireturn, 1) := by decide +kernel
theorem dL_act_980 : decode cL_act 980 = .ok (.aload_n 1, 1) := by decide +kernel
theorem dL_act_981 : decode cL_act 981 = .ok (.getfield 65, 3) := by decide +kernel
theorem dL_act_984 : decode cL_act 984 = .ok (.arraylength, 1) := by decide +kernel
theorem dL_act_985 : decode cL_act 985 = .ok (.ifCond .ne 5, 3) := by decide +kernel
theorem dL_act_988 : decode cL_act 988 = .ok (.iconst 1, 1) := by decide +kernel
theorem dL_act_989 : decode cL_act 989 = .ok (.ireturn, 1) := by decide +kernel
theorem dL_act_990 : decode cL_act 990 = .ok (.iconst 2, 1) := by decide +kernel
theorem dL_act_991 : decode cL_act 991 = .ok (.newarray .int, 2) := by decide +kernel
theorem dL_act_993 : decode cL_act 993 = .ok (.dup, 1) := by decide +kernel
theorem dL_act_994 : decode cL_act 994 = .ok (.iconst 0, 1) := by decide +kernel
theorem dL_act_995 : decode cL_act 995 = .ok (.iload_n 2, 1) := by decide +kernel
theorem dL_act_996 : decode cL_act 996 = .ok (.iconst 4, 1) := by decide +kernel
theorem dL_act_997 : decode cL_act 997 = .ok (.ishr, 1) := by decide +kernel
theorem dL_act_998 : decode cL_act 998 = .ok (.aload_n 1, 1) := by decide +kernel
theorem dL_act_999 : decode cL_act 999 = .ok (.getfield 65, 3) := by decide +kernel
theorem dL_act_1002 : decode cL_act 1002 = .ok (.arraylength, 1) := by decide +kernel
theorem dL_act_1003 : decode cL_act 1003 = .ok (.invokestatic 9, 3) := by decide +kernel
theorem dL_act_1006 : decode cL_act 1006 = .ok (.iastore, 1) := by decide +kernel
theorem dL_act_1007 : decode cL_act 1007 = .ok (.dup, 1) := by decide +kernel
theorem dL_act_1008 : decode cL_act 1008 = .ok (.iconst 1, 1) := by decide +kernel
theorem dL_act_1009 : decode cL_act 1009 = .ok (.iconst 0, 1) := by decide +kernel
theorem dL_act_1010 : decode cL_act 1010 = .ok (.iastore, 1) := by decide +kernel
theorem dL_act_1011 : decode cL_act 1011 = .ok (.astore 7, 2) := by decide +kernel
theorem dL_act_1013 : decode cL_act 1013 = .ok (.aload_n 1, 1) := by decide +kernel
theorem dL_act_1014 : decode cL_act 1014 = .ok (.getfield 72, 3) := by decide +kernel
theorem dL_act_1017 : decode cL_act 1017 = .ok (.arraylength, 1) := by decide +kernel
theorem dL_act_1018 : decode cL_act 1018 = .ok (.istore 8, 2) := by decide +kernel
theorem dL_act_1020 : decode cL_act 1020 = .ok (.aload_n 0, 1) := by decide +kernel
theorem dL_act_1021 : decode cL_act 1021 = .ok (.aload 7, 2) := by decide +kernel
theorem dL_act_1023 : decode cL_act 1023 = .ok (.iconst 0, 1) := by decide +kernel
theorem dL_act_1024 : decode cL_act 1024 = .ok (.iaload, 1) := by decide +kernel
theorem dL_act_1025 : decode cL_act 1025 = .ok (.invokevirtual 75, 3) := by decide +kernel
theorem dL_act_1028 : decode cL_act 1028 = .ok (.istore 6, 2) := by decide +kernel
theorem dL_act_1030 : decode cL_act 1030 = .ok (.goto 8, 3) := by decide +kernel
theorem dL_act_1033 : decode cL_act 1033 = .ok (.astore 9, 2) := by decide +kernel
theorem dL_act_1035 : decode cL_act 1035 = .ok (.iconst (-1), 1) := by decide +kernel
theorem dL_act_1036 : decode cL_act 1036 = .ok (.istore 6, 2) := by decide +kernel
theorem dL_act_1038 : decode cL_act 1038 = .ok (.iload 6, 2) := by decide +kernel
theorem dL_act_1040 : decode cL_act 1040 = .ok (.iload 8, 2) := by decide +kernel
theorem dL_act_1042 : decode cL_act 1042 = .ok (.iconst 5, 1) := by decide +kernel
theorem dL_act_1043 : decode cL_act 1043 = .ok (.if_icmp .ge 8, 3) := by decide +kernel
theorem dL_act_1046 : decode cL_act 1046 = .ok (.iload 8, 2) := by decide +kernel
theorem dL_act_1048 : decode cL_act 1048 = .ok (.goto 4, 3) := by decide +kernel
theorem dL_act_1051 : decode cL_act 1051 = .ok (.iconst (-1), 1) := by decide +kernel
theorem dL_act_1052 : decode cL_act 1052 = .ok (.if_icmp .eq 5, 3) := by decide +kernel
theorem dL_act_1055 : decode cL_act 1055 = .ok (.iconst 0, 1) := by decide +kernel
theorem dL_act_1056 : decode cL_act 1056 = .ok (.ireturn, 1) := by decide +kernel
theorem dL_act_1057 : decode cL_act 1057 = .ok (.iload 6, 2) := by decide +kernel
theorem dL_act_1059 : decode cL_act 1059 = .ok (.ifCond .lt 16, 3) := by decide +kernel
theorem dL_act_1062 : decode cL_act 1062 = .ok (.aload_n 1, 1) := by decide +kernel
theorem dL_act_1063 : decode cL_act 1063 = .ok (.aload_n 1, 1) := by decide +kernel
theorem dL_act_1064 : decode cL_act 1064 = .ok (.getfield 72, 3) := by decide +kernel
theorem dL_act_1067 : decode cL_act 1067 = .ok (.aload 7, 2) := by decide +kernel
theorem dL_act_1069 : decode cL_act 1069 = .ok (.invokestatic 57, 3) := by decide +kernel
theorem dL_act_1072 : decode cL_act 1072 = .ok (.putfield 72, 3) := by decide +kernel
theorem dL_act_1075 : decode cL_act 1075 = .ok (.iconst 1, 1) := by decide +kernel
theorem dL_act_1076 : decode cL_act 1076 = .ok (.ireturn, 1) := by decide +kernel
theorem dL_act_1077 : decode cL_act 1077 = .ok (.aload_n 1, 1) := by decide +kernel
theorem dL_act_1078 : decode cL_act 1078 = .ok (.getfield 72, 3) := by decide +kernel
theorem dL_act_1081 : decode cL_act 1081 = .ok (.arraylength, 1) := by decide +kernel
theorem dL_act_1082 : decode cL_act 1082 = .ok (.ifCond .ne 5, 3) := by decide +kernel
theorem dL_act_1085 : decode cL_act 1085 = .ok (.iconst 1, 1) := by decide +kernel
theorem dL_act_1086 : decode cL_act 1086 = .ok (.ireturn, 1) := by decide +kernel
theorem dL_act_1087 : decode cL_act 1087 = .ok (.iload_n 2, 1) := by decide +kernel
theorem dL_act_1088 : decode cL_act 1088 = .ok (.iconst 4, 1) := by decide +kernel
theorem dL_act_1089 : decode cL_act 1089 = .ok (.ishr, 1) := by decide +kernel
theorem dL_act_1090 : decode cL_act 1090 = .ok (.aload_n 1, 1) := by decide +kernel
theorem dL_act_1091 : decode cL_act 1091 = .ok (.getfield 72, 3) := by decide +kernel
theorem dL_act_1094 : decode cL_act 1094 = .ok (.arraylength, 1) := by decide +kernel
theorem dL_act_1095 : decode cL_act 1095 = .ok (.invokestatic 9, 3) := by decide +kernel
theorem dL_act_1098 : decode cL_act 1098 = .ok (.istore 7, 2) := by decide +kernel
theorem dL_act_1100 : decode cL_act 1100 = .ok (.aload_n 1, 1) := by decide +kernel
theorem dL_act_1101 : decode cL_act 1101 = .ok (.getfield 72, 3) := by decide +kernel
theorem dL_act_1104 : decode cL_act 1104 = .ok (.iload 7, 2) := by decide +kernel
theorem dL_act_1106 : decode cL_act 1106 = .ok (.aaload, 1) := by decide +kernel
theorem dL_act_1107 : decode cL_act 1107 = .ok (.iconst 0, 1) := by decide +kernel
theorem dL_act_1108 : decode cL_act 1108 = .ok (.iaload, 1) := by decide +kernel
theorem dL_act_1109 : decode cL_act 1109 = .ok (.istore 8, 2) := by decide +kernel
theorem dL_act_1111 : decode cL_act 1111 = .ok (.aload_n 1, 1) := by decide +kernel
theorem dL_act_1112 : decode cL_act 1112 = .ok (.getfield 72, 3) := by decide +kernel
theorem dL_act_1115 : decode cL_act 1115 = .ok (.iload 7, 2) := by decide +kernel
theorem dL_act_1117 : decode cL_act 1117 = .ok (.aaload, 1) := by decide +kernel
theorem dL_act_1118 : decode cL_act 1118 = .ok (.iconst 0, 1) := by decide +kernel
theorem dL_act_1119 : decode cL_act 1119 = .ok (.iload_n 2, 1) := by decide +kernel
theorem dL_act_1120 : decode cL_act 1120 = .ok (.bipush 6, 2) := by decide +kernel
theorem dL_act_1122 : decode cL_act 1122 = .ok (.ishr, 1) := by decide +kernel
theorem dL_act_1123 : decode cL_act 1123 = .ok (.aload_n 1, 1) := by decide +kernel
theorem dL_act_1124 : decode cL_act 1124 = .ok (.getfield 65, 3) := by decide +kernel
theorem dL_act_1127 : decode cL_act 1127 = .ok (.arraylength, 1) := by decide +kernel
theorem dL_act_1128 : decode cL_act 1128 = .ok (.invokestatic 9, 3) := by decide +kernel
theorem dL_act_1131 : decode cL_act 1131 = .ok (.iastore, 1) := by decide +kernel
theorem dL_act_1132 : decode cL_act 1132 = .ok (.aload_n 0, 1) := by decide +kernel
theorem dL_act_1133 : decode cL_act 1133 = .ok (.iload 7, 2) := by decide +kernel
theorem dL_act_1135 : decode cL_act 1135 = .ok (.aload_n 1, 1) := by decide +kernel
theorem dL_act_1136 : decode cL_act 1136 = .ok (.getfield 72, 3) := by decide +kernel
theorem dL_act_1139 : decode cL_act 1139 = .ok (.iload 7, 2) := by decide +kernel
theorem dL_act_1141 : decode cL_act 1141 = .ok (.aaload, 1) := by decide +kernel
theorem dL_act_1142 : decode cL_act 1142 = .ok (.iconst 0, 1) := by decide +kernel
theorem dL_act_1143 : decode cL_act 1143 = .ok (.iaload, 1) := by decide +kernel
theorem dL_act_1144 : decode cL_act 1144 = .ok (.invokevirtual 78, 3) := by decide +kernel
theorem dL_act_1147 : decode cL_act 1147 = .ok (.iload 8, 2) := by decide +kernel
theorem dL_act_1149 : decode cL_act 1149 = .ok (.if_icmp .ne 7, 3) := by decide +kernel
theorem dL_act_1152 : decode cL_act 1152 = .ok (.iconst 1, 1) := by decide +kernel
theorem dL_act_1153 : decode cL_act 1153 = .ok (.goto 4, 3) := by decide +kernel
theorem dL_act_1156 : decode cL_act 1156 = .ok (.iconst 0, 1) := by decide +kernel
theorem dL_act_1157 : decode cL_act 1157 = .ok (.ireturn, 1) := by decide +kernel

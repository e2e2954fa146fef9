theorem dL_below_0 : decode cL_below 0 = .ok (.iload_n 0, 1) := by decide +kernel
theorem dL_below_1 : decode cL_below 1 = .ok (.ldc 7, 2) := by decide +kernel
theorem dL_below_3 : decode cL_below 3 = .ok (.iand, 1) := by decide +kernel
theorem dL_below_4 : decode cL_below 4 = .ok (.iload_n 1, 1) := by decide +kernel
theorem dL_below_5 : decode cL_below 5 = .ok (.irem, 1) := by decide +kernel
theorem dL_below_6 : decode cL_below 6 = .ok (.ireturn, 1) := by decide +kernel
theorem dL_cell_0 : decode cL_cell 0 = .ok (.iload_n 1, 1) := by decide +kernel
theorem dL_cell_1 : decode cL_cell 1 = .ok (.aload_n 0, 1) := by decide +kernel
theorem dL_cell_2 : decode cL_cell 2 = .ok (.arraylength, 1) := by decide +kernel
theorem dL_cell_3 : decode cL_cell 3 = .ok (.if_icmp .ge 9, 3) := by decide +kernel
theorem dL_cell_6 : decode cL_cell 6 = .ok (.aload_n 0, 1) := by decide +kernel
theorem dL_cell_7 : decode cL_cell 7 = .ok (.iload_n 1, 1) := by decide +kernel
theorem dL_cell_8 : decode cL_cell 8 = .ok (.iaload, 1) := by decide +kernel
theorem dL_cell_9 : decode cL_cell 9 = .ok (.goto 9, 3) := by decide +kernel
theorem dL_cell_12 : decode cL_cell 12 = .ok (.ldc 8, 2) := by decide +kernel
theorem dL_cell_14 : decode cL_cell 14 = .ok (.iload_n 1, 1) := by decide +kernel
theorem dL_cell_15 : decode cL_cell 15 = .ok (.iconst 3, 1) := by decide +kernel
theorem dL_cell_16 : decode cL_cell 16 = .ok (.iadd, 1) := by decide +kernel
theorem dL_cell_17 : decode cL_cell 17 = .ok (.imul, 1) := by decide +kernel
theorem dL_cell_18 : decode cL_cell 18 = .ok (.ireturn, 1) := by decide +kernel
set_option maxRecDepth 20000 in
theorem ggL_act_L_below : GoodIn wsL_act wsL_below := goodIn_r _ [11, 12] (by decide +kernel) (by decide +kernel)
set_option maxRecDepth 20000 in
theorem gL_act_L_below : GoodIn wsL_act (va_wsS RL 9 yL_below wsL_below) := goodIn_app (goodIn_of _ (by decide +kernel)) ggL_act_L_below
set_option maxRecDepth 20000 in
theorem ggL_act_X6_rock : GoodIn wsL_act wsX6_rock := goodIn_ca (goodIn_ca (goodIn_ca (goodIn_r _ [17, 18, 19, 20, 21, 22, 23, 16, 24, 25, 26, 27, 28, 29, 30, 31, 32, 33, 34, 35, 36, 37, 38, 39, 40, 41, 42, 43, 44, 45, 46, 47, 48, 49, 50, 51, 52, 53, 54, 55, 56, 57, 58, 59, 60, 61, 62, 63, 64, 65, 66, 67, 68, 69, 70, 71, 282, 283, 284, 285, 286, 287, 288, 289, 290, 291, 292, 293, 294, 295, 296, 297, 298, 299, 300, 301] (by decide +kernel) (by decide +kernel)) (goodIn_sub (fun _ h => List.mem_cons_of_mem _ (List.mem_append_left _ (List.mem_append_left _ (List.mem_append_right _ h)))) (by decide +kernel))) (goodIn_sub (fun _ h => List.mem_cons_of_mem _ (List.mem_append_left _ (List.mem_append_right _ h))) (by decide +kernel))) (goodIn_sub (fun _ h => List.mem_cons_of_mem _ (List.mem_append_right _ h)) (by decide +kernel))
set_option maxRecDepth 20000 in
theorem gL_act_X6_rock : GoodIn wsL_act (wsV RL 25 RX6 yX6_rock wsX6_rock) := goodIn_app (goodIn_of _ (by decide +kernel)) ggL_act_X6_rock
set_option maxRecDepth 20000 in
theorem ggL_act_X6_dig : GoodIn wsL_act wsX6_dig := goodIn_ca (goodIn_ca (goodIn_r _ [75, 18, 21, 22, 23, 16, 24, 25, 26, 27, 28, 29, 30, 37, 38, 39, 40, 41, 42, 43, 44, 45, 46, 47, 48, 49, 50, 51, 52, 53, 54, 55, 56, 57, 58, 59, 60, 61, 19, 20, 76, 77, 78, 79, 66, 67, 68, 69, 70, 71, 80, 81, 82, 83, 84, 85, 86, 87, 88, 89, 90, 91, 92, 93, 94, 95, 96, 97, 98, 99, 100, 101, 102, 103, 104, 105, 106, 107, 108, 109, 110, 111, 112, 113, 114, 115, 116, 117, 118, 119, 120, 282, 283, 284, 285, 286, 287, 288, 293, 294, 295, 296, 297, 298, 299, 300, 301, 289, 290, 291, 292] (by decide +kernel) (by decide +kernel)) (goodIn_sub (fun _ h => List.mem_cons_of_mem _ (List.mem_append_left _ (List.mem_append_left _ (List.mem_append_right _ h)))) (by decide +kernel))) (goodIn_sub (fun _ h => List.mem_cons_of_mem _ (List.mem_append_right _ h)) (by decide +kernel))
set_option maxRecDepth 20000 in
theorem gL_act_X6_dig : GoodIn wsL_act (wsV RL 33 RX6 yX6_dig wsX6_dig) := goodIn_app (goodIn_of _ (by decide +kernel)) ggL_act_X6_dig
set_option maxRecDepth 20000 in
theorem ggL_act_X7_pond : GoodIn wsL_act wsX7_pond := goodIn_r _ [125, 126, 127, 128, 276, 277, 278, 279, 280, 281] (by decide +kernel) (by decide +kernel)
set_option maxRecDepth 20000 in
theorem gL_act_X7_pond : GoodIn wsL_act (wsV RL 36 RX7 yX7_pond wsX7_pond) := goodIn_app (goodIn_of _ (by decide +kernel)) ggL_act_X7_pond
set_option maxRecDepth 20000 in
theorem ggL_act_X7_many : GoodIn wsL_act wsX7_many := goodIn_r _ [131] (by decide +kernel) (by decide +kernel)
set_option maxRecDepth 20000 in
theorem gL_act_X7_many : GoodIn wsL_act (va_wsS RL 40 yX7_many wsX7_many) := goodIn_app (goodIn_of _ (by decide +kernel)) ggL_act_X7_many
set_option maxRecDepth 20000 in
theorem ggL_act_X6_wall : GoodIn wsL_act wsX6_wall := goodIn_ca (goodIn_ca (goodIn_r _ [135, 18, 19, 20, 21, 22, 23, 16, 24, 25, 26, 27, 28, 29, 30, 37, 38, 39, 40, 41, 42, 43, 44, 45, 46, 47, 48, 49, 50, 51, 52, 53, 54, 55, 56, 57, 58, 59, 60, 61, 136, 137, 138, 139, 66, 67, 68, 69, 70, 71, 282, 283, 284, 285, 286, 287, 288, 289, 290, 291, 292, 293, 294, 295, 296, 297, 298, 299, 300, 301] (by decide +kernel) (by decide +kernel)) (goodIn_sub (fun _ h => List.mem_cons_of_mem _ (List.mem_append_left _ (List.mem_append_left _ (List.mem_append_right _ h)))) (by decide +kernel))) (goodIn_sub (fun _ h => List.mem_cons_of_mem _ (List.mem_append_right _ h)) (by decide +kernel))
set_option maxRecDepth 20000 in
theorem gL_act_X6_wall : GoodIn wsL_act (wsV RL 44 RX6 yX6_wall wsX6_wall) := goodIn_app (goodIn_of _ (by decide +kernel)) ggL_act_X6_wall
set_option maxRecDepth 20000 in
theorem ggL_act_X6_clear : GoodIn wsL_act wsX6_clear := goodIn_ca (goodIn_ca (goodIn_r _ [143, 44, 45, 18, 19, 20, 21, 22, 23, 16, 24, 25, 26, 27, 28, 29, 30, 37, 38, 39, 46, 47, 48, 49, 50, 51, 52, 53, 54, 55, 56, 57, 144, 145, 146, 147, 97, 148, 149, 150, 151, 71, 152, 153, 154, 155, 156, 157, 158, 159, 66, 67, 68, 69, 70, 80, 81, 82, 83, 84, 85, 86, 87, 88, 89, 90, 91, 92, 93, 94, 95, 96, 98, 99, 100, 101, 102, 103, 104, 105, 106, 107, 108, 109, 110, 111, 112, 282, 283, 284, 285, 286, 287, 288, 289, 290, 291, 292, 293, 294, 295, 296, 297, 298, 299, 300, 301] (by decide +kernel) (by decide +kernel)) (goodIn_sub (fun _ h => List.mem_cons_of_mem _ (List.mem_append_right _ h)) (by decide +kernel))) (goodIn_sub (fun _ h => List.mem_cons_of_mem _ (List.mem_append_left _ (List.mem_append_left _ (List.mem_append_right _ h)))) (by decide +kernel))
set_option maxRecDepth 20000 in
theorem gL_act_X6_clear : GoodIn wsL_act (wsV RL 51 RX6 yX6_clear wsX6_clear) := goodIn_app (goodIn_of _ (by decide +kernel)) ggL_act_X6_clear
set_option maxRecDepth 20000 in
theorem ggL_act_X6_carp : GoodIn wsL_act wsX6_carp := goodIn_ca (goodIn_ca (goodIn_r _ [163, 44, 45, 18, 164, 165, 19, 21, 22, 23, 16, 24, 25, 26, 27, 28, 29, 30, 37, 38, 39, 166, 157, 158, 159, 50, 51, 52, 53, 54, 55, 56, 57, 58, 59, 60, 61, 20, 167, 168, 169, 170, 171, 172, 173, 174, 175, 176, 177, 178, 179, 180, 181, 182, 183, 184, 185, 186, 187, 188, 189, 190, 191, 97, 95, 117, 118, 119, 120, 84, 282, 283, 284, 285, 286, 287, 288, 302, 303, 304, 293, 294, 295, 296, 297, 298, 299, 300, 301, 289, 290, 291, 292] (by decide +kernel) (by decide +kernel)) (goodIn_sub (fun _ h => List.mem_cons_of_mem _ (List.mem_append_right _ h)) (by decide +kernel))) (goodIn_sub (fun _ h => List.mem_cons_of_mem _ (List.mem_append_left _ (List.mem_append_left _ (List.mem_append_right _ h)))) (by decide +kernel))
set_option maxRecDepth 20000 in
theorem gL_act_X6_carp : GoodIn wsL_act (wsV RL 54 RX6 yX6_carp wsX6_carp) := goodIn_app (goodIn_of _ (by decide +kernel)) ggL_act_X6_carp
set_option maxRecDepth 20000 in
theorem ggL_act_X7_more : GoodIn wsL_act wsX7_more := goodIn_r _ [194, 195] (by decide +kernel) (by decide +kernel)
set_option maxRecDepth 20000 in
theorem gL_act_X7_more : GoodIn wsL_act (va_wsS RL 57 yX7_more wsX7_more) := goodIn_app (goodIn_of _ (by decide +kernel)) ggL_act_X7_more
set_option maxRecDepth 20000 in
theorem ggL_act_X6_sell : GoodIn wsL_act wsX6_sell := goodIn_ca (goodIn_ca (goodIn_r _ [199, 44, 45, 164, 18, 19, 20, 200, 201, 202, 16, 203, 25, 26, 165, 204, 205, 206, 170, 207, 174, 208, 209, 210, 211, 172, 212, 213, 214, 215, 216, 217, 218, 219, 173, 188, 189, 190, 29, 191, 97, 95, 117, 118, 119, 120, 84, 55, 56, 57, 220, 221, 222, 178, 223, 180, 282, 283, 284, 285, 286, 287, 288, 289, 290, 291, 292, 302, 303, 304, 293, 294, 295, 296, 297, 298, 299, 300, 301] (by decide +kernel) (by decide +kernel)) (goodIn_sub (fun _ h => List.mem_cons_of_mem _ (List.mem_append_right _ h)) (by decide +kernel))) (goodIn_sub (fun _ h => List.mem_cons_of_mem _ (List.mem_append_left _ (List.mem_append_left _ (List.mem_append_right _ h)))) (by decide +kernel))
set_option maxRecDepth 20000 in
theorem gL_act_X6_sell : GoodIn wsL_act (wsV RL 61 RX6 yX6_sell wsX6_sell) := goodIn_app (goodIn_of _ (by decide +kernel)) ggL_act_X6_sell
set_option maxRecDepth 20000 in
theorem ggL_act_X6_gate : GoodIn wsL_act wsX6_gate := goodIn_ca (goodIn_ca (goodIn_ca (goodIn_r _ [227, 35, 36, 44, 45, 228, 229, 21, 22, 23, 16, 24, 25, 26, 27, 28, 29, 30, 230, 109, 110, 37, 38, 39, 231, 232, 233, 234, 235, 236, 237, 238, 282, 283, 284, 285, 286, 287, 288, 305, 306, 307] (by decide +kernel) (by decide +kernel)) (goodIn_sub (fun _ h => List.mem_cons_of_mem _ (List.mem_append_left _ (List.mem_append_right _ h))) (by decide +kernel))) (goodIn_sub (fun _ h => List.mem_cons_of_mem _ (List.mem_append_right _ h)) (by decide +kernel))) (goodIn_sub (fun _ h => List.mem_cons_of_mem _ (List.mem_append_left _ (List.mem_append_left _ (List.mem_append_right _ h)))) (by decide +kernel))
set_option maxRecDepth 20000 in
theorem gL_act_X6_gate : GoodIn wsL_act (wsV RL 68 RX6 yX6_gate wsX6_gate) := goodIn_app (goodIn_of _ (by decide +kernel)) ggL_act_X6_gate
set_option maxRecDepth 20000 in
theorem ggL_act_X6_invite : GoodIn wsL_act wsX6_invite := goodIn_ca (goodIn_ca (goodIn_r _ [242, 44, 45, 243, 244, 245, 246, 247, 16, 248, 25, 26, 228, 229, 249, 250, 251, 252, 253, 254, 255, 282, 283, 284, 285, 286, 287, 288, 308, 309, 305, 306, 307] (by decide +kernel) (by decide +kernel)) (goodIn_sub (fun _ h => List.mem_cons_of_mem _ (List.mem_append_right _ h)) (by decide +kernel))) (goodIn_sub (fun _ h => List.mem_cons_of_mem _ (List.mem_append_left _ (List.mem_append_left _ (List.mem_append_right _ h)))) (by decide +kernel))
set_option maxRecDepth 20000 in
theorem gL_act_X6_invite : GoodIn wsL_act (wsV RL 75 RX6 yX6_invite wsX6_invite) := goodIn_app (goodIn_of _ (by decide +kernel)) ggL_act_X6_invite
set_option maxRecDepth 20000 in
theorem ggL_act_X6_lead : GoodIn wsL_act wsX6_lead := goodIn_ca (goodIn_r _ [259, 243, 260, 261, 262, 16, 263, 25, 26, 244, 245, 246, 247, 248, 228, 229, 264, 265, 266, 252, 267, 255, 268, 269, 270, 271, 254, 272, 273, 274, 275, 282, 283, 284, 285, 286, 287, 288, 308, 309, 305, 306, 307] (by decide +kernel) (by decide +kernel)) (goodIn_sub (fun _ h => List.mem_cons_of_mem _ (List.mem_append_left _ (List.mem_append_left _ (List.mem_append_right _ h)))) (by decide +kernel))
set_option maxRecDepth 20000 in
theorem gL_act_X6_lead : GoodIn wsL_act (wsV RL 78 RX6 yX6_lead wsX6_lead) := goodIn_app (goodIn_of _ (by decide +kernel)) ggL_act_X6_lead
theorem dL_act_0 : decode cL_act 0 = .ok (.iload_n 2, 1) := by decide +kernel
theorem dL_act_1 : decode cL_act 1 = .ok (.bipush 9, 2) := by decide +kernel
theorem dL_act_3 : decode cL_act 3 = .ok (.ishr, 1) := by decide +kernel
theorem dL_act_4 : decode cL_act 4 = .ok (.iconst 2, 1) := by decide +kernel
theorem dL_act_5 : decode cL_act 5 = .ok (.invokestatic 9, 3) := by decide +kernel
theorem dL_act_8 : decode cL_act 8 = .ok (.ifCond .ne 14, 3) := by decide +kernel
theorem dL_act_11 : decode cL_act 11 = .ok (.iload_n 2, 1) := by decide +kernel
theorem dL_act_12 : decode cL_act 12 = .ok (.iconst 3, 1) := by decide +kernel
theorem dL_act_13 : decode cL_act 13 = .ok (.ishr, 1) := by decide +kernel
theorem dL_act_14 : decode cL_act 14 = .ok (.bipush 10, 2) := by decide +kernel
theorem dL_act_16 : decode cL_act 16 = .ok (.invokestatic 9, 3) := by decide +kernel
theorem dL_act_19 : decode cL_act 19 = .ok (.goto 12, 3) := by decide +kernel
theorem dL_act_22 : decode cL_act 22 = .ok (.iconst 3, 1) := by decide +kernel
theorem dL_act_23 : decode cL_act 23 = .ok (.iload_n 2, 1) := by decide +kernel
theorem dL_act_24 : decode cL_act 24 = .ok (.iconst 4, 1) := by decide +kernel
theorem dL_act_25 : decode cL_act 25 = .ok (.ishr, 1) := by decide +kernel
theorem dL_act_26 : decode cL_act 26 = .ok (.iconst 4, 1) := by decide +kernel
theorem dL_act_27 : decode cL_act 27 = .ok (.invokestatic 9, 3) := by decide +kernel
theorem dL_act_30 : decode cL_act 30 = .ok (.iadd, 1) := by decide +kernel
theorem dL_act_31 : decode cL_act 31 = .ok (.istore_n 3, 1) := by decide +kernel
theorem dL_act_32 : decode cL_act 32 = .ok (.iload_n 2, 1) := by decide +kernel
theorem dL_act_33 : decode cL_act 33 = .ok (.bipush 8, 2) := by decide +kernel
theorem dL_act_35 : decode cL_act 35 = .ok (.ishr, 1) := by decide +kernel
theorem dL_act_36 : decode cL_act 36 = .ok (.iconst 2, 1) := by decide +kernel
theorem dL_act_37 : decode cL_act 37 = .ok (.invokestatic 9, 3) := by decide +kernel
theorem dL_act_40 : decode cL_act 40 = .ok (.ifCond .ne 15, 3) := by decide +kernel
theorem dL_act_43 : decode cL_act 43 = .ok (.iload_n 2, 1) := by decide +kernel
theorem dL_act_44 : decode cL_act 44 = .ok (.bipush 6, 2) := by decide +kernel
theorem dL_act_46 : decode cL_act 46 = .ok (.ishr, 1) := by decide +kernel
theorem dL_act_47 : decode cL_act 47 = .ok (.bipush 7, 2) := by decide +kernel
theorem dL_act_49 : decode cL_act 49 = .ok (.invokestatic 9, 3) := by decide +kernel
theorem dL_act_52 : decode cL_act 52 = .ok (.goto 12, 3) := by decide +kernel
theorem dL_act_55 : decode cL_act 55 = .ok (.iconst 2, 1) := by decide +kernel
theorem dL_act_56 : decode cL_act 56 = .ok (.iload_n 2, 1) := by decide +kernel
theorem dL_act_57 : decode cL_act 57 = .ok (.iconst 5, 1) := by decide +kernel
theorem dL_act_58 : decode cL_act 58 = .ok (.ishr, 1) := by decide +kernel
theorem dL_act_59 : decode cL_act 59 = .ok (.iconst 3, 1) := by decide +kernel
theorem dL_act_60 : decode cL_act 60 = .ok (.invokestatic 9, 3) := by decide +kernel
theorem dL_act_63 : decode cL_act 63 = .ok (.iadd, 1) := by decide +kernel
theorem dL_act_64 : decode cL_act 64 = .ok (.istore 4, 2) := by decide +kernel
theorem dL_act_66 : decode cL_act 66 = .ok (.aload_n 1, 1) := by decide +kernel
theorem dL_act_67 : decode cL_act 67 = .ok (.getfield 15, 3) := by decide +kernel
theorem dL_act_70 : decode cL_act 70 = .ok (.iload 4, 2) := by decide +kernel
theorem dL_act_72 : decode cL_act 72 = .ok (.aaload, 1) := by decide +kernel
theorem dL_act_73 : decode cL_act 73 = .ok (.iload_n 3, 1) := by decide +kernel
theorem dL_act_74 : decode cL_act 74 = .ok (.aaload, 1) := by decide +kernel
theorem dL_act_75 : decode cL_act 75 = .ok (.astore 5, 2) := by decide +kernel
theorem dL_act_77 : decode cL_act 77 = .ok (.iload_n 2, 1) := by decide +kernel
theorem dL_act_78 : decode cL_act 78 = .ok (.bipush 15, 2) := by decide +kernel
theorem dL_act_80 : decode cL_act 80 = .ok (.invokestatic 9, 3) := by decide +kernel
theorem dL_act_83 : decode cL_act 83 = .ok (.tableswitch 994 0 13 #[69, 69, 224, 224, 224, 314, 397, 556, 556, 556, 681, 805, 805, 897], 69) := by decide +kernel
theorem dL_act_152 : decode cL_act 152 = .ok (.iload_n 2, 1) := by decide +kernel
theorem dL_act_153 : decode cL_act 153 = .ok (.iconst 4, 1) := by decide +kernel
theorem dL_act_154 : decode cL_act 154 = .ok (.ishr, 1) := by decide +kernel
theorem dL_act_155 : decode cL_act 155 = .ok (.bipush 6, 2) := by decide +kernel
theorem dL_act_157 : decode cL_act 157 = .ok (.invokestatic 9, 3) := by decide +kernel
theorem dL_act_160 : decode cL_act 160 = .ok (.istore 7, 2) := by decide +kernel
theorem dL_act_162 : decode cL_act 162 = .ok (.iconst 1, 1) := by decide +kernel
theorem dL_act_163 : decode cL_act 163 = .ok (.iload_n 2, 1) := by decide +kernel
theorem dL_act_164 : decode cL_act 164 = .ok (.bipush 7, 2) := by decide +kernel
theorem dL_act_166 : decode cL_act 166 = .ok (.ishr, 1) := by decide +kernel
theorem dL_act_167 : decode cL_act 167 = .ok (.iload_n 2, 1) := by decide +kernel
theorem dL_act_168 : decode cL_act 168 = .ok (.iconst 3, 1) := by decide +kernel
theorem dL_act_169 : decode cL_act 169 = .ok (.ishr, 1) := by decide +kernel
theorem dL_act_170 : decode cL_act 170 = .ok (.iconst 2, 1) := by decide +kernel
theorem dL_act_171 : decode cL_act 171 = .ok (.invokestatic 9, 3) := by decide +kernel
theorem dL_act_174 : decode cL_act 174 = .ok (.ifCond .ne 8, 3) := by decide +kernel
theorem dL_act_177 : decode cL_act 177 = .ok (.bipush 9, 2) := by decide +kernel
theorem dL_act_179 : decode cL_act 179 = .ok (.goto 4, 3) := by decide +kernel
theorem dL_act_182 : decode cL_act 182 = .ok (.iconst 4, 1) := by decide +kernel
theorem dL_act_183 : decode cL_act 183 = .ok (.invokestatic 9, 3) := by decide +kernel
theorem dL_act_186 : decode cL_act 186 = .ok (.iadd, 1) := by decide +kernel
theorem dL_act_187 : decode cL_act 187 = .ok (.istore 8, 2) := by decide +kernel
theorem dL_act_189 : decode cL_act 189 = .ok (.aload 5, 2) := by decide +kernel
theorem dL_act_191 : decode cL_act 191 = .ok (.iconst 0, 1) := by decide +kernel
theorem dL_act_192 : decode cL_act 192 = .ok (.iaload, 1) := by decide +kernel
theorem dL_act_193 : decode cL_act 193 = .ok (.ifCond .ne 18, 3) := by decide +kernel
theorem dL_act_196 : decode cL_act 196 = .ok (.aload_n 1, 1) := by decide +kernel
theorem dL_act_197 : decode cL_act 197 = .ok (.getfield 21, 3) := by decide +kernel
theorem dL_act_200 : decode cL_act 200 = .ok (.iconst 2, 1) := by decide +kernel
theorem dL_act_201 : decode cL_act 201 = .ok (.iload 8, 2) := by decide +kernel
theorem dL_act_203 : decode cL_act 203 = .ok (.imul, 1) := by decide +kernel
theorem dL_act_204 : decode cL_act 204 = .ok (.if_icmp .lt 7, 3) := by decide +kernel
theorem dL_act_207 : decode cL_act 207 = .ok (.iconst 1, 1) := by decide +kernel
theorem dL_act_208 : decode cL_act 208 = .ok (.goto 4, 3) := by decide +kernel
theorem dL_act_211 : decode cL_act 211 = .ok (.iconst 0, 1) := by decide +kernel
theorem dL_act_212 : decode cL_act 212 = .ok (.istore 9, 2) := by decide +kernel
theorem dL_act_214 : decode cL_act 214 = .ok (.aload_n 0, 1) := by decide +kernel
theorem dL_act_215 : decode cL_act 215 = .ok (.iload_n 3, 1) := by decide +kernel
theorem dL_act_216 : decode cL_act 216 = .ok (.iload 4, 2) := by decide +kernel
theorem dL_act_218 : decode cL_act 218 = .ok (.iload 7, 2) := by decide +kernel
theorem dL_act_220 : decode cL_act 220 = .ok (.iload 8, 2) := by decide +kernel
theorem dL_act_222 : decode cL_act 222 = .ok (.invokevirtual 25, 3) := by decide +kernel
theorem dL_act_225 : decode cL_act 225 = .ok (.istore 6, 2) := by decide +kernel
theorem dL_act_227 : decode cL_act 227 = .ok (.goto 8, 3) := by decide +kernel
theorem dL_act_230 : decode cL_act 230 = .ok (.astore 10, 2) := by decide +kernel
theorem dL_act_232 : decode cL_act 232 = .ok (.iconst (-1), 1) := by decide +kernel
theorem dL_act_233 : decode cL_act 233 = .ok (.istore 6, 2) := by decide +kernel
theorem dL_act_235 : decode cL_act 235 = .ok (.iload 9, 2) := by decide +kernel
theorem dL_act_237 : decode cL_act 237 = .ok (.ifCond .eq 46, 3) := by decide +kernel
theorem dL_act_240 : decode cL_act 240 = .ok (.iconst 3, 1) := by decide +kernel
theorem dL_act_241 : decode cL_act 241 = .ok (.newarray .int, 2) := by decide +kernel
theorem dL_act_243 : decode cL_act 243 = .ok (.dup, 1) := by decide +kernel
theorem dL_act_244 : decode cL_act 244 = .ok (.iconst 0, 1) := by decide +kernel
theorem dL_act_245 : decode cL_act 245 = .ok (.iconst 1, 1) := by decide +kernel
theorem dL_act_246 : decode cL_act 246 = .ok (.iastore, 1) := by decide +kernel
theorem dL_act_247 : decode cL_act 247 = .ok (.dup, 1) := by decide +kernel
theorem dL_act_248 : decode cL_act 248 = .ok (.iconst 1, 1) := by decide +kernel
theorem dL_act_249 : decode cL_act 249 = .ok (.iload 7, 2) := by decide +kernel
theorem dL_act_251 : decode cL_act 251 = .ok (.iastore, 1) := by decide +kernel
theorem dL_act_252 : decode cL_act 252 = .ok (.dup, 1) := by decide +kernel
theorem dL_act_253 : decode cL_act 253 = .ok (.iconst 2, 1) := by decide +kernel
theorem dL_act_254 : decode cL_act 254 = .ok (.iload 8, 2) := by decide +kernel
theorem dL_act_256 : decode cL_act 256 = .ok (.iastore, 1) := by decide +kernel
theorem dL_act_257 : decode cL_act 257 = .ok (.astore 10, 2) := by decide +kernel
theorem dL_act_259 : decode cL_act 259 = .ok (.aload_n 1, 1) := by decide +kernel
theorem dL_act_260 : decode cL_act 260 = .ok (.getfield 15, 3) := by decide +kernel
theorem dL_act_263 : decode cL_act 263 = .ok (.iload 4, 2) := by decide +kernel
theorem dL_act_265 : decode cL_act 265 = .ok (.aaload, 1) := by decide +kernel
theorem dL_act_266 : decode cL_act 266 = .ok (.iload_n 3, 1) := by decide +kernel
theorem dL_act_267 : decode cL_act 267 = .ok (.aload 10, 2) := by decide +kernel
theorem dL_act_269 : decode cL_act 269 = .ok (.aastore, 1) := by decide +kernel
theorem dL_act_270 : decode cL_act 270 = .ok (.aload_n 1, 1) := by decide +kernel
theorem dL_act_271 : decode cL_act 271 = .ok (.dup, 1) := by decide +kernel
theorem dL_act_272 : decode cL_act 272 = .ok (.getfield 21, 3) := by decide +kernel
theorem dL_act_275 : decode cL_act 275 = .ok (.iconst 2, 1) := by decide +kernel
theorem dL_act_276 : decode cL_act 276 = .ok (.iload 8, 2) := by decide +kernel
theorem dL_act_278 : decode cL_act 278 = .ok (.imul, 1) := by decide +kernel
theorem dL_act_279 : decode cL_act 279 = .ok (.isub, 1) := by decide +kernel
theorem dL_act_280 : decode cL_act 280 = .ok (.putfield 21, 3) := by decide +kernel
theorem dL_act_283 : decode cL_act 283 = .ok (.iload 6, 2) := by decide +kernel
theorem dL_act_285 : decode cL_act 285 = .ok (.iload 9, 2) := by decide +kernel
theorem dL_act_287 : decode cL_act 287 = .ok (.ifCond .eq 10, 3) := by decide +kernel
theorem dL_act_290 : decode cL_act 290 = .ok (.aload_n 1, 1) := by decide +kernel
theorem dL_act_291 : decode cL_act 291 = .ok (.getfield 21, 3) := by decide +kernel
theorem dL_act_294 : decode cL_act 294 = .ok (.goto 4, 3) := by decide +kernel
theorem dL_act_297 : decode cL_act 297 = .ok (.iconst (-1), 1) := by decide +kernel
theorem dL_act_298 : decode cL_act 298 = .ok (.if_icmp .ne 7, 3) := by decide +kernel
theorem dL_act_301 : decode cL_act 301 = .ok (.iconst 1, 1) := by decide +kernel
theorem dL_act_302 : decode cL_act 302 = .ok (.goto 4, 3) := by decide +kernel
theorem dL_act_305 : decode cL_act 305 = .ok (.iconst 0, 1) := by decide +kernel
theorem dL_act_306 : decode cL_act 306 = .ok (.ireturn, 1) := by decide +kernel
theorem dL_act_307 : decode cL_act 307 = .ok (.aload 5, 2) := by decide +kernel
theorem dL_act_309 : decode cL_act 309 = .ok (.iconst 0, 1) := by decide +kernel
theorem dL_act_310 : decode cL_act 310 = .ok (.iaload, 1) := by decide +kernel
theorem dL_act_311 : decode cL_act 311 = .ok (.ifCond .ne 15, 3) := by decide +kernel
theorem dL_act_314 : decode cL_act 314 = .ok (.aload_n 1, 1) := by decide +kernel
theorem dL_act_315 : decode cL_act 315 = .ok (.getfield 21, 3) := by decide +kernel
theorem dL_act_318 : decode cL_act 318 = .ok (.iconst 5, 1) := by decide +kernel
theorem dL_act_319 : decode cL_act 319 = .ok (.if_icmp .le 7, 3) := by decide +kernel
theorem dL_act_322 : decode cL_act 322 = .ok (.iconst 1, 1) := by decide +kernel
theorem dL_act_323 : decode cL_act 323 = .ok (.goto 4, 3) := by decide +kernel
theorem dL_act_326 : decode cL_act 326 = .ok (.iconst 0, 1) := by decide +kernel
theorem dL_act_327 : decode cL_act 327 = .ok (.istore 7, 2) := by decide +kernel
theorem dL_act_329 : decode cL_act 329 = .ok (.aload_n 0, 1) := by decide +kernel
theorem dL_act_330 : decode cL_act 330 = .ok (.iload_n 3, 1) := by decide +kernel
theorem dL_act_331 : decode cL_act 331 = .ok (.iload 4, 2) := by decide +kernel
theorem dL_act_333 : decode cL_act 333 = .ok (.invokevirtual 33, 3) := by decide +kernel
theorem dL_act_336 : decode cL_act 336 = .ok (.istore 6, 2) := by decide +kernel
theorem dL_act_338 : decode cL_act 338 = .ok (.goto 8, 3) := by decide +kernel
theorem dL_act_341 : decode cL_act 341 = .ok (.astore 8, 2) := by decide +kernel
theorem dL_act_343 : decode cL_act 343 = .ok (.iconst (-1), 1) := by decide +kernel
theorem dL_act_344 : decode cL_act 344 = .ok (.istore 6, 2) := by decide +kernel
theorem dL_act_346 : decode cL_act 346 = .ok (.iload 7, 2) := by decide +kernel
theorem dL_act_348 : decode cL_act 348 = .ok (.ifCond .eq 19, 3) := by decide +kernel
theorem dL_act_351 : decode cL_act 351 = .ok (.aload 5, 2) := by decide +kernel
theorem dL_act_353 : decode cL_act 353 = .ok (.iconst 0, 1) := by decide +kernel
theorem dL_act_354 : decode cL_act 354 = .ok (.iconst 2, 1) := by decide +kernel
theorem dL_act_355 : decode cL_act 355 = .ok (.iastore, 1) := by decide +kernel
theorem dL_act_356 : decode cL_act 356 = .ok (.aload_n 1, 1) := by decide +kernel
theorem dL_act_357 : decode cL_act 357 = .ok (.dup, 1) := by decide +kernel
theorem dL_act_358 : decode cL_act 358 = .ok (.getfield 21, 3) := by decide +kernel
theorem dL_act_361 : decode cL_act 361 = .ok (.bipush 6, 2) := by decide +kernel
theorem dL_act_363 : decode cL_act 363 = .ok (.isub, 1) := by decide +kernel
theorem dL_act_364 : decode cL_act 364 = .ok (.putfield 21, 3) := by decide +kernel
theorem dL_act_367 : decode cL_act 367 = .ok (.iload 6, 2) := by decide +kernel
theorem dL_act_369 : decode cL_act 369 = .ok (.iload 7, 2) := by decide +kernel
theorem dL_act_371 : decode cL_act 371 = .ok (.ifCond .eq 16, 3) := by decide +kernel
theorem dL_act_374 : decode cL_act 374 = .ok (.aload_n 1, 1) := by decide +kernel
theorem dL_act_375 : decode cL_act 375 = .ok (.iload_n 3, 1) := by decide +kernel
theorem dL_act_376 : decode cL_act 376 = .ok (.iload 4, 2) := by decide +kernel
theorem dL_act_378 : decode cL_act 378 = .ok (.invokevirtual 36, 3) := by decide +kernel
theorem dL_act_381 : decode cL_act 381 = .ok (.invokestatic 40, 3) := by decide +kernel
theorem dL_act_384 : decode cL_act 384 = .ok (.goto 4, 3) := by decide +kernel
theorem dL_act_387 : decode cL_act 387 = .ok (.iconst (-1), 1) := by decide +kernel
theorem dL_act_388 : decode cL_act 388 = .ok (.if_icmp .ne 7, 3) := by decide +kernel
theorem dL_act_391 : decode cL_act 391 = .ok (.iconst 1, 1) := by decide +kernel
theorem dL_act_392 : decode cL_act 392 = .ok (.goto 4, 3) := by decide +kernel
theorem dL_act_395 : decode cL_act 395 = .ok (.iconst 0, 1) := by decide +kernel
theorem dL_act_396 : decode cL_act 396 = .ok (.ireturn, 1) := by decide +kernel
theorem dL_act_397 : decode cL_act 397 = .ok (.aload 5, 2) := by decide +kernel
theorem dL_act_399 : decode cL_act 399 = .ok (.iconst 0, 1) := by decide +kernel
theorem dL_act_400 : decode cL_act 400 = .ok (.iaload, 1) := by decide +kernel
theorem dL_act_401 : decode cL_act 401 = .ok (.ifCond .ne 15, 3) := by decide +kernel
theorem dL_act_404 : decode cL_act 404 = .ok (.aload_n 1, 1) := by decide +kernel
theorem dL_act_405 : decode cL_act 405 = .ok (.getfield 21, 3) := by decide +kernel
theorem dL_act_408 : decode cL_act 408 = .ok (.iconst 2, 1) := by decide +kernel
theorem dL_act_409 : decode cL_act 409 = .ok (.if_icmp .le 7, 3) := by decide +kernel
theorem dL_act_412 : decode cL_act 412 = .ok (.iconst 1, 1) := by decide +kernel
theorem dL_act_413 : decode cL_act 413 = .ok (.goto 4, 3) := by decide +kernel
theorem dL_act_416 : decode cL_act 416 = .ok (.iconst 0, 1) := by decide +kernel
theorem dL_act_417 : decode cL_act 417 = .ok (.istore 7, 2) := by decide +kernel
theorem dL_act_419 : decode cL_act 419 = .ok (.aload_n 0, 1) := by decide +kernel
theorem dL_act_420 : decode cL_act 420 = .ok (.iload_n 3, 1) := by decide +kernel
theorem dL_act_421 : decode cL_act 421 = .ok (.iload 4, 2) := by decide +kernel
theorem dL_act_423 : decode cL_act 423 = .ok (.invokevirtual 44, 3) := by decide +kernel
theorem dL_act_426 : decode cL_act 426 = .ok (.istore 6, 2) := by decide +kernel
theorem dL_act_428 : decode cL_act 428 = .ok (.goto 8, 3) := by decide +kernel
theorem dL_act_431 : decode cL_act 431 = .ok (.astore 8, 2) := by decide +kernel
theorem dL_act_433 : decode cL_act 433 = .ok (.iconst (-1), 1) := by decide +kernel
theorem dL_act_434 : decode cL_act 434 = .ok (.istore 6, 2) := by decide +kernel
theorem dL_act_436 : decode cL_act 436 = .ok (.iload 7, 2) := by decide +kernel
theorem dL_act_438 : decode cL_act 438 = .ok (.ifCond .eq 18, 3) := by decide +kernel
theorem dL_act_441 : decode cL_act 441 = .ok (.aload 5, 2) := by decide +kernel
theorem dL_act_443 : decode cL_act 443 = .ok (.iconst 0, 1) := by decide +kernel
theorem dL_act_444 : decode cL_act 444 = .ok (.iconst 3, 1) := by decide +kernel
theorem dL_act_445 : decode cL_act 445 = .ok (.iastore, 1) := by decide +kernel
theorem dL_act_446 : decode cL_act 446 = .ok (.aload_n 1, 1) := by decide +kernel
theorem dL_act_447 : decode cL_act 447 = .ok (.dup, 1) := by decide +kernel
theorem dL_act_448 : decode cL_act 448 = .ok (.getfield 21, 3) := by decide +kernel
theorem dL_act_451 : decode cL_act 451 = .ok (.iconst 3, 1) := by decide +kernel
theorem dL_act_452 : decode cL_act 452 = .ok (.isub, 1) := by decide +kernel
theorem dL_act_453 : decode cL_act 453 = .ok (.putfield 21, 3) := by decide +kernel
theorem dL_act_456 : decode cL_act 456 = .ok (.iload 6, 2) := by decide +kernel
theorem dL_act_458 : decode cL_act 458 = .ok (.iload 7, 2) := by decide +kernel
theorem dL_act_460 : decode cL_act 460 = .ok (.ifCond .eq 10, 3) := by decide +kernel
theorem dL_act_463 : decode cL_act 463 = .ok (.aload_n 1, 1) := by decide +kernel
theorem dL_act_464 : decode cL_act 464 = .ok (.getfield 21, 3) := by decide +kernel
theorem dL_act_467 : decode cL_act 467 = .ok (.goto 4, 3) := by decide +kernel
theorem dL_act_470 : decode cL_act 470 = .ok (.iconst (-1), 1) := by decide +kernel
theorem dL_act_471 : decode cL_act 471 = .ok (.if_icmp .ne 7, 3) := by decide +kernel
theorem dL_act_474 : decode cL_act 474 = .ok (.iconst 1, 1) := by decide +kernel
theorem dL_act_475 : decode cL_act 475 = .ok (.goto 4, 3) := by decide +kernel
theorem dL_act_478 : decode cL_act 478 = .ok (.iconst 0, 1) := by decide +kernel
theorem dL_act_479 : decode cL_act 479 = .ok (.ireturn, 1) := by decide +kernel
theorem dL_act_480 : decode cL_act 480 = .ok (.aload 5, 2) := by decide +kernel
theorem dL_act_482 : decode cL_act 482 = .ok (.iconst 0, 1) := by decide +kernel
theorem dL_act_483 : decode cL_act 483 = .ok (.iaload, 1) := by decide +kernel
theorem dL_act_484 : decode cL_act 484 = .ok (.ifCond .eq 7, 3) := by decide +kernel
theorem dL_act_487 : decode cL_act 487 = .ok (.iconst 1, 1) := by decide +kernel
theorem dL_act_488 : decode cL_act 488 = .ok (.goto 4, 3) := by decide +kernel
theorem dL_act_491 : decode cL_act 491 = .ok (.iconst 0, 1) := by decide +kernel
theorem dL_act_492 : decode cL_act 492 = .ok (.istore 7, 2) := by decide +kernel
theorem dL_act_494 : decode cL_act 494 = .ok (.aload_n 1, 1) := by decide +kernel
theorem dL_act_495 : decode cL_act 495 = .ok (.getfield 47, 3) := by decide +kernel
theorem dL_act_498 : decode cL_act 498 = .ok (.astore 8, 2) := by decide +kernel
theorem dL_act_500 : decode cL_act 500 = .ok (.aload 8, 2) := by decide +kernel
theorem dL_act_502 : decode cL_act 502 = .ok (.arraylength, 1) := by decide +kernel
theorem dL_act_503 : decode cL_act 503 = .ok (.istore 9, 2) := by decide +kernel
theorem dL_act_505 : decode cL_act 505 = .ok (.iconst 0, 1) := by decide +kernel
theorem dL_act_506 : decode cL_act 506 = .ok (.istore 10, 2) := by decide +kernel
theorem dL_act_508 : decode cL_act 508 = .ok (.iload 10, 2) := by decide +kernel
theorem dL_act_510 : decode cL_act 510 = .ok (.iload 9, 2) := by decide +kernel
theorem dL_act_512 : decode cL_act 512 = .ok (.if_icmp .ge 51, 3) := by decide +kernel
theorem dL_act_515 : decode cL_act 515 = .ok (.aload 8, 2) := by decide +kernel
theorem dL_act_517 : decode cL_act 517 = .ok (.iload 10, 2) := by decide +kernel
theorem dL_act_519 : decode cL_act 519 = .ok (.aaload, 1) := by decide +kernel
theorem dL_act_520 : decode cL_act 520 = .ok (.astore 11, 2) := by decide +kernel
theorem dL_act_522 : decode cL_act 522 = .ok (.iload 7, 2) := by decide +kernel
theorem dL_act_524 : decode cL_act 524 = .ok (.aload 11, 2) := by decide +kernel
theorem dL_act_526 : decode cL_act 526 = .ok (.iconst 3, 1) := by decide +kernel
theorem dL_act_527 : decode cL_act 527 = .ok (.iaload, 1) := by decide +kernel
theorem dL_act_528 : decode cL_act 528 = .ok (.iconst 1, 1) := by decide +kernel
theorem dL_act_529 : decode cL_act 529 = .ok (.if_icmp .eq 20, 3) := by decide +kernel
theorem dL_act_532 : decode cL_act 532 = .ok (.aload 11, 2) := by decide +kernel
theorem dL_act_534 : decode cL_act 534 = .ok (.iconst 0, 1) := by decide +kernel
theorem dL_act_535 : decode cL_act 535 = .ok (.iaload, 1) := by decide +kernel
theorem dL_act_536 : decode cL_act 536 = .ok (.iload_n 3, 1) := by decide +kernel
theorem dL_act_537 : decode cL_act 537 = .ok (.if_icmp .ne 12, 3) := by decide +kernel
theorem dL_act_540 : decode cL_act 540 = .ok (.aload 11, 2) := by decide +kernel
theorem dL_act_542 : decode cL_act 542 = .ok (.iconst 1, 1) := by decide +kernel
theorem dL_act_543 : decode cL_act 543 = .ok (.iaload, 1) := by decide +kernel
theorem dL_act_544 : decode cL_act 544 = .ok (.iload 4, 2) := by decide +kernel
theorem dL_act_546 : decode cL_act 546 = .ok (.if_icmp .eq 7, 3) := by decide +kernel
theorem dL_act_549 : decode cL_act 549 = .ok (.iconst 1, 1) := by decide +kernel
theorem dL_act_550 : decode cL_act 550 = .ok (.goto 4, 3) := by decide +kernel
theorem dL_act_553 : decode cL_act 553 = .ok (.iconst 0, 1) := by decide +kernel
theorem dL_act_554 : decode cL_act 554 = .ok (.iand, 1) := by decide +kernel
theorem dL_act_555 : decode cL_act 555 = .ok (.istore 7, 2) := by decide +kernel
theorem dL_act_557 : decode cL_act 557 = .ok (.iinc 10 1, 3) := by decide +kernel
theorem dL_act_560 : decode cL_act 560 = .ok (.goto (-52), 3) := by decide +kernel
theorem dL_act_563 : decode cL_act 563 = .ok (.aload_n 0, 1) := by decide +kernel
theorem dL_act_564 : decode cL_act 564 = .ok (.iload_n 3, 1) := by decide +kernel
theorem dL_act_565 : decode cL_act 565 = .ok (.iload 4, 2) := by decide +kernel
theorem dL_act_567 : decode cL_act 567 = .ok (.invokevirtual 51, 3) := by decide +kernel
theorem dL_act_570 : decode cL_act 570 = .ok (.istore 6, 2) := by decide +kernel
theorem dL_act_572 : decode cL_act 572 = .ok (.goto 8, 3) := by decide +kernel
theorem dL_act_575 : decode cL_act 575 = .ok (.astore 8, 2) := by decide +kernel
theorem dL_act_577 : decode cL_act 577 = .ok (.iconst (-1), 1) := by decide +kernel
theorem dL_act_578 : decode cL_act 578 = .ok (.istore 6, 2) := by decide +kernel
theorem dL_act_580 : decode cL_act 580 = .ok (.iload 7, 2) := by decide +kernel
theorem dL_act_582 : decode cL_act 582 = .ok (.ifCond .eq 33, 3) := by decide +kernel
theorem dL_act_585 : decode cL_act 585 = .ok (.aload_n 1, 1) := by decide +kernel
theorem dL_act_586 : decode cL_act 586 = .ok (.dup, 1) := by decide +kernel
theorem dL_act_587 : decode cL_act 587 = .ok (.getfield 21, 3) := by decide +kernel
theorem dL_act_590 : decode cL_act 590 = .ok (.aload 5, 2) := by decide +kernel
theorem dL_act_592 : decode cL_act 592 = .ok (.iconst 0, 1) := by decide +kernel
theorem dL_act_593 : decode cL_act 593 = .ok (.iaload, 1) := by decide +kernel
theorem dL_act_594 : decode cL_act 594 = .ok (.iconst 1, 1) := by decide +kernel
theorem dL_act_595 : decode cL_act 595 = .ok (.if_icmp .ne 10, 3) := by decide +kernel
theorem dL_act_598 : decode cL_act 598 = .ok (.aload 5, 2) := by decide +kernel
theorem dL_act_600 : decode cL_act 600 = .ok (.iconst 2, 1) := by decide +kernel
theorem dL_act_601 : decode cL_act 601 = .ok (.iaload, 1) := by decide +kernel
theorem dL_act_602 : decode cL_act 602 = .ok (.goto 4, 3) := by decide +kernel
theorem dL_act_605 : decode cL_act 605 = .ok (.iconst 0, 1) := by decide +kernel
theorem dL_act_606 : decode cL_act 606 = .ok (.iadd, 1) := by decide +kernel
theorem dL_act_607 : decode cL_act 607 = .ok (.putfield 21, 3) := by decide +kernel
theorem dL_act_610 : decode cL_act 610 = .ok (.aload 5, 2) := by decide +kernel
theorem dL_act_612 : decode cL_act 612 = .ok (.iconst 0, 1) := by decide +kernel
theorem dL_act_613 : decode cL_act 613 = .ok (.iconst 0, 1) := by decide +kernel
theorem dL_act_614 : decode cL_act 614 = .ok (.iastore, 1) := by decide +kernel
theorem dL_act_615 : decode cL_act 615 = .ok (.iload 6, 2) := by decide +kernel
theorem dL_act_617 : decode cL_act 617 = .ok (.iload 7, 2) := by decide +kernel
theorem dL_act_619 : decode cL_act 619 = .ok (.ifCond .eq 10, 3) := by decide +kernel
theorem dL_act_622 : decode cL_act 622 = .ok (.aload_n 1, 1) := by decide +kernel
theorem dL_act_623 : decode cL_act 623 = .ok (.getfield 21, 3) := by decide +kernel
theorem dL_act_626 : decode cL_act 626 = .ok (.goto 4, 3) := by decide +kernel
theorem dL_act_629 : decode cL_act 629 = .ok (.iconst (-1), 1) := by decide +kernel
theorem dL_act_630 : decode cL_act 630 = .ok (.if_icmp .ne 7, 3) := by decide +kernel
theorem dL_act_633 : decode cL_act 633 = .ok (.iconst 1, 1) := by decide +kernel
theorem dL_act_634 : decode cL_act 634 = .ok (.goto 4, 3) := by decide +kernel
theorem dL_act_637 : decode cL_act 637 = .ok (.iconst 0, 1) := by decide +kernel
theorem dL_act_638 : decode cL_act 638 = .ok (.ireturn, 1) := by decide +kernel
theorem dL_act_639 : decode cL_act 639 = .ok (.aload 5, 2) := by decide +kernel
theorem dL_act_641 : decode cL_act 641 = .ok (.iconst 0, 1) := by decide +kernel
theorem dL_act_642 : decode cL_act 642 = .ok (.iaload, 1) := by decide +kernel
theorem dL_act_643 : decode cL_act 643 = .ok (.iconst 2, 1) := by decide +kernel
theorem dL_act_644 : decode cL_act 644 = .ok (.if_icmp .ne 25, 3) := by decide +kernel
theorem dL_act_647 : decode cL_act 647 = .ok (.aload_n 1, 1) := by decide +kernel
theorem dL_act_648 : decode cL_act 648 = .ok (.getfield 21, 3) := by decide +kernel
theorem dL_act_651 : decode cL_act 651 = .ok (.iconst 3, 1) := by decide +kernel
theorem dL_act_652 : decode cL_act 652 = .ok (.if_icmp .le 17, 3) := by decide +kernel
theorem dL_act_655 : decode cL_act 655 = .ok (.aload_n 1, 1) := by decide +kernel
theorem dL_act_656 : decode cL_act 656 = .ok (.getfield 47, 3) := by decide +kernel
theorem dL_act_659 : decode cL_act 659 = .ok (.arraylength, 1) := by decide +kernel
theorem dL_act_660 : decode cL_act 660 = .ok (.bipush 30, 2) := by decide +kernel
theorem dL_act_662 : decode cL_act 662 = .ok (.if_icmp .ge 7, 3) := by decide +kernel
theorem dL_act_665 : decode cL_act 665 = .ok (.iconst 1, 1) := by decide +kernel
theorem dL_act_666 : decode cL_act 666 = .ok (.goto 4, 3) := by decide +kernel
theorem dL_act_669 : decode cL_act 669 = .ok (.iconst 0, 1) := by decide +kernel
theorem dL_act_670 : decode cL_act 670 = .ok (.istore 7, 2) := by decide +kernel
theorem dL_act_672 : decode cL_act 672 = .ok (.aload_n 0, 1) := by decide +kernel
theorem dL_act_673 : decode cL_act 673 = .ok (.iload_n 3, 1) := by decide +kernel
theorem dL_act_674 : decode cL_act 674 = .ok (.iload 4, 2) := by decide +kernel
theorem dL_act_676 : decode cL_act 676 = .ok (.invokevirtual 54, 3) := by decide +kernel
theorem dL_act_679 : decode cL_act 679 = .ok (.istore 6, 2) := by decide +kernel
theorem dL_act_681 : decode cL_act 681 = .ok (.goto 8, 3) := by decide +kernel
theorem dL_act_684 : decode cL_act 684 = .ok (.astore 8, 2) := by decide +kernel
theorem dL_act_686 : decode cL_act 686 = .ok (.iconst (-1), 1) := by decide +kernel
theorem dL_act_687 : decode cL_act 687 = .ok (.istore 6, 2) := by decide +kernel
theorem dL_act_689 : decode cL_act 689 = .ok (.iload 6, 2) := by decide +kernel
theorem dL_act_691 : decode cL_act 691 = .ok (.iload 7, 2) := by decide +kernel
theorem dL_act_693 : decode cL_act 693 = .ok (.ifCond .eq 11, 3) := by decide +kernel
theorem dL_act_696 : decode cL_act 696 = .ok (.aload_n 1, 1) := by decide +kernel
theorem dL_act_697 : decode cL_act 697 = .ok (.getfield 47, 3) := by decide +kernel
theorem dL_act_700 : decode cL_act 700 = .ok (.arraylength, 1) := by decide +kernel
theorem dL_act_701 : decode cL_act 701 = .ok (.goto 4, 3) := by decide +kernel
theorem dL_act_704 : decode cL_act 704 = .ok (.iconst (-1), 1) := by decide +kernel
theorem dL_act_705 : decode cL_act 705 = .ok (.if_icmp .eq 5, 3) := by decide +kernel
theorem dL_act_708 : decode cL_act 708 = .ok (.iconst 0, 1) := by decide +kernel
theorem dL_act_709 : decode cL_act 709 = .ok (.ireturn, 1) := by decide +kernel
theorem dL_act_710 : decode cL_act 710 = .ok (.iload 7, 2) := by decide +kernel
theorem dL_act_712 : decode cL_act 712 = .ok (.ifCond .ne 5, 3) := by decide +kernel
theorem dL_act_715 : decode cL_act 715 = .ok (.iconst 1, 1) := by decide +kernel
theorem dL_act_716 : decode cL_act 716 = .ok (.ireturn, 1) := by decide +kernel
theorem dL_act_717 : decode cL_act 717 = .ok (.iconst 4, 1) := by decide +kernel
theorem dL_act_718 : decode cL_act 718 = .ok (.newarray .int, 2) := by decide +kernel
theorem dL_act_720 : decode cL_act 720 = .ok (.dup, 1) := by decide +kernel
theorem dL_act_721 : decode cL_act 721 = .ok (.iconst 0, 1) := by decide +kernel
theorem dL_act_722 : decode cL_act 722 = .ok (.iload_n 3, 1) := by decide +kernel
theorem dL_act_723 : decode cL_act 723 = .ok (.iastore, 1) := by decide +kernel
theorem dL_act_724 : decode cL_act 724 = .ok (.dup, 1) := by decide +kernel
theorem dL_act_725 : decode cL_act 725 = .ok (.iconst 1, 1) := by decide +kernel
theorem dL_act_726 : decode cL_act 726 = .ok (.iload 4, 2) := by decide +kernel
theorem dL_act_728 : decode cL_act 728 = .ok (.iastore, 1) := by decide +kernel
theorem dL_act_729 : decode cL_act 729 = .ok (.dup, 1) := by decide +kernel
theorem dL_act_730 : decode cL_act 730 = .ok (.iconst 2, 1) := by decide +kernel
theorem dL_act_731 : decode cL_act 731 = .ok (.iconst 1, 1) := by decide +kernel
theorem dL_act_732 : decode cL_act 732 = .ok (.iastore, 1) := by decide +kernel
theorem dL_act_733 : decode cL_act 733 = .ok (.dup, 1) := by decide +kernel
theorem dL_act_734 : decode cL_act 734 = .ok (.iconst 3, 1) := by decide +kernel
theorem dL_act_735 : decode cL_act 735 = .ok (.iconst 0, 1) := by decide +kernel
theorem dL_act_736 : decode cL_act 736 = .ok (.iastore, 1) := by decide +kernel
theorem dL_act_737 : decode cL_act 737 = .ok (.astore 8, 2) := by decide +kernel
theorem dL_act_739 : decode cL_act 739 = .ok (.aload_n 1, 1) := by decide +kernel
theorem dL_act_740 : decode cL_act 740 = .ok (.aload_n 1, 1) := by decide +kernel
theorem dL_act_741 : decode cL_act 741 = .ok (.getfield 47, 3) := by decide +kernel
theorem dL_act_744 : decode cL_act 744 = .ok (.aload 8, 2) := by decide +kernel
theorem dL_act_746 : decode cL_act 746 = .ok (.invokestatic 57, 3) := by decide +kernel
theorem dL_act_749 : decode cL_act 749 = .ok (.putfield 47, 3) := by decide +kernel
theorem dL_act_752 : decode cL_act 752 = .ok (.aload_n 1, 1) := by decide +kernel
theorem dL_act_753 : decode cL_act 753 = .ok (.dup, 1) := by decide +kernel
theorem dL_act_754 : decode cL_act 754 = .ok (.getfield 21, 3) := by decide +kernel
theorem dL_act_757 : decode cL_act 757 = .ok (.iconst 4, 1) := by decide +kernel
theorem dL_act_758 : decode cL_act 758 = .ok (.isub, 1) := by decide +kernel
theorem dL_act_759 : decode cL_act 759 = .ok (.putfield 21, 3) := by decide +kernel
theorem dL_act_762 : decode cL_act 762 = .ok (.iconst 1, 1) := by decide +kernel
theorem dL_act_763 : decode cL_act 763 = .ok (.ireturn, 1) := by decide +kernel
theorem dL_act_764 : decode cL_act 764 = .ok (.aload_n 1, 1) := by decide +kernel
theorem dL_act_765 : decode cL_act 765 = .ok (.getfield 47, 3) := by decide +kernel
theorem dL_act_768 : decode cL_act 768 = .ok (.arraylength, 1) := by decide +kernel
theorem dL_act_769 : decode cL_act 769 = .ok (.ifCond .eq 14, 3) := by decide +kernel
theorem dL_act_772 : decode cL_act 772 = .ok (.iload_n 2, 1) := by decide +kernel
theorem dL_act_773 : decode cL_act 773 = .ok (.bipush 7, 2) := by decide +kernel
theorem dL_act_775 : decode cL_act 775 = .ok (.ishr, 1) := by decide +kernel
theorem dL_act_776 : decode cL_act 776 = .ok (.iconst 3, 1) := by decide +kernel
theorem dL_act_777 : decode cL_act 777 = .ok (.invokestatic 9, 3) := by decide +kernel
theorem dL_act_780 : decode cL_act 780 = .ok (.ifCond .le 5, 3) := by decide +kernel
theorem dL_act_783 : decode cL_act 783 = .ok (.iconst 1, 1) := by decide +kernel
theorem dL_act_784 : decode cL_act 784 = .ok (.ireturn, 1) := by decide +kernel
theorem dL_act_785 : decode cL_act 785 = .ok (.iload_n 2, 1) := by decide +kernel
theorem dL_act_786 : decode cL_act 786 = .ok (.iconst 4, 1) := by decide +kernel
theorem dL_act_787 : decode cL_act 787 = .ok (.ishr, 1) := by decide +kernel
theorem dL_act_788 : decode cL_act 788 = .ok (.aload_n 1, 1) := by decide +kernel
theorem dL_act_789 : decode cL_act 789 = .ok (.getfield 47, 3) := by decide +kernel
theorem dL_act_792 : decode cL_act 792 = .ok (.arraylength, 1) := by decide +kernel
theorem dL_act_793 : decode cL_act 793 = .ok (.invokestatic 9, 3) := by decide +kernel
theorem dL_act_796 : decode cL_act 796 = .ok (.istore 7, 2) := by decide +kernel
theorem dL_act_798 : decode cL_act 798 = .ok (.aload_n 1, 1) := by decide +kernel
theorem dL_act_799 : decode cL_act 799 = .ok (.getfield 47, 3) := by decide +kernel
theorem dL_act_802 : decode cL_act 802 = .ok (.iload 7, 2) := by decide +kernel
theorem dL_act_804 : decode cL_act 804 = .ok (.aaload, 1) := by decide +kernel
theorem dL_act_805 : decode cL_act 805 = .ok (.astore 8, 2) := by decide +kernel
theorem dL_act_807 : decode cL_act 807 = .ok (.aload 8, 2) := by decide +kernel
theorem dL_act_809 : decode cL_act 809 = .ok (.iconst 3, 1) := by decide +kernel
theorem dL_act_810 : decode cL_act 810 = .ok (.iaload, 1) := by decide +kernel
theorem dL_act_811 : decode cL_act 811 = .ok (.ifCond .ne 7, 3) := by decide +kernel
theorem dL_act_814 : decode cL_act 814 = .ok (.iconst 1, 1) := by decide +kernel
theorem dL_act_815 : decode cL_act 815 = .ok (.goto 4, 3) := by decide +kernel
theorem dL_act_818 : decode cL_act 818 = .ok (.iconst 0, 1) := by decide +kernel
theorem dL_act_819 : decode cL_act 819 = .ok (.istore 9, 2) := by decide +kernel
theorem dL_act_821 : decode cL_act 821 = .ok (.aload_n 0, 1) := by decide +kernel
theorem dL_act_822 : decode cL_act 822 = .ok (.iload 7, 2) := by decide +kernel
theorem dL_act_824 : decode cL_act 824 = .ok (.invokevirtual 61, 3) := by decide +kernel
theorem dL_act_827 : decode cL_act 827 = .ok (.istore 6, 2) := by decide +kernel
theorem dL_act_829 : decode cL_act 829 = .ok (.goto 8, 3) := by decide +kernel
theorem dL_act_832 : decode cL_act 832 = .ok (.astore 10, 2) := by decide +kernel
theorem dL_act_834 : decode cL_act 834 = .ok (.iconst (-1), 1) := by decide +kernel
theorem dL_act_835 : decode cL_act 835 = .ok (.istore 6, 2) := by decide +kernel
theorem dL_act_837 : decode cL_act 837 = .ok (.iload 9, 2) := by decide +kernel
theorem dL_act_839 : decode cL_act 839 = .ok (.ifCond .eq 25, 3) := by decide +kernel
theorem dL_act_842 : decode cL_act 842 = .ok (.aload 8, 2) := by decide +kernel
theorem dL_act_844 : decode cL_act 844 = .ok (.iconst 3, 1) := by decide +kernel
theorem dL_act_845 : decode cL_act 845 = .ok (.iconst 1, 1) := by decide +kernel
theorem dL_act_846 : decode cL_act 846 = .ok (.iastore, 1) := by decide +kernel
theorem dL_act_847 : decode cL_act 847 = .ok (.aload_n 1, 1) := by decide +kernel
theorem dL_act_848 : decode cL_act 848 = .ok (.dup, 1) := by decide +kernel
theorem dL_act_849 : decode cL_act 849 = .ok (.getfield 21, 3) := by decide +kernel
theorem dL_act_852 : decode cL_act 852 = .ok (.aload 8, 2) := by decide +kernel
theorem dL_act_854 : decode cL_act 854 = .ok (.iconst 2, 1) := by decide +kernel
theorem dL_act_855 : decode cL_act 855 = .ok (.iaload, 1) := by decide +kernel
theorem dL_act_856 : decode cL_act 856 = .ok (.iconst 2, 1) := by decide +kernel
theorem dL_act_857 : decode cL_act 857 = .ok (.idiv, 1) := by decide +kernel
theorem dL_act_858 : decode cL_act 858 = .ok (.iconst 1, 1) := by decide +kernel
theorem dL_act_859 : decode cL_act 859 = .ok (.iadd, 1) := by decide +kernel
theorem dL_act_860 : decode cL_act 860 = .ok (.iadd, 1) := by decide +kernel
theorem dL_act_861 : decode cL_act 861 = .ok (.putfield 21, 3) := by decide +kernel
theorem dL_act_864 : decode cL_act 864 = .ok (.iload 6, 2) := by decide +kernel
theorem dL_act_866 : decode cL_act 866 = .ok (.iload 9, 2) := by decide +kernel
theorem dL_act_868 : decode cL_act 868 = .ok (.ifCond .eq 10, 3) := by decide +kernel
theorem dL_act_871 : decode cL_act 871 = .ok (.aload_n 1, 1) := by decide +kernel
theorem dL_act_872 : decode cL_act 872 = .ok (.getfield 21, 3) := by decide +kernel
theorem dL_act_875 : decode cL_act 875 = .ok (.goto 4, 3) := by decide +kernel
theorem dL_act_878 : decode cL_act 878 = .ok (.iconst (-1), 1) := by decide +kernel
theorem dL_act_879 : decode cL_act 879 = .ok (.if_icmp .ne 7, 3) := by decide +kernel
theorem dL_act_882 : decode cL_act 882 = .ok (.iconst 1, 1) := by decide +kernel
theorem dL_act_883 : decode cL_act 883 = .ok (.goto 4, 3) := by decide +kernel
theorem dL_act_886 : decode cL_act 886 = .ok (.iconst 0, 1) := by decide +kernel
theorem dL_act_887 : decode cL_act 887 = .ok (.ireturn, 1) := by decide +kernel
theorem dL_act_888 : decode cL_act 888 = .ok (.iconst 3, 1) := by decide +kernel
theorem dL_act_889 : decode cL_act 889 = .ok (.newarray .int, 2) := by decide +kernel
theorem dL_act_891 : decode cL_act 891 = .ok (.dup, 1) := by decide +kernel
theorem dL_act_892 : decode cL_act 892 = .ok (.iconst 0, 1) := by decide +kernel
theorem dL_act_893 : decode cL_act 893 = .ok (.iload_n 3, 1) := by decide +kernel
theorem dL_act_894 : decode cL_act 894 = .ok (.iastore, 1) := by decide +kernel
theorem dL_act_895 : decode cL_act 895 = .ok (.dup, 1) := by decide +kernel
theorem dL_act_896 : decode cL_act 896 = .ok (.iconst 1, 1) := by decide +kernel
theorem dL_act_897 : decode cL_act 897 = .ok (.iload 4, 2) := by decide +kernel
theorem dL_act_899 : decode cL_act 899 = .ok (.iastore, 1) := by decide +kernel
theorem dL_act_900 : decode cL_act 900 = .ok (.dup, 1) := by decide +kernel
theorem dL_act_901 : decode cL_act 901 = .ok (.iconst 2, 1) := by decide +kernel
theorem dL_act_902 : decode cL_act 902 = .ok (.iload_n 2, 1) := by decide +kernel
theorem dL_act_903 : decode cL_act 903 = .ok (.iconst 5, 1) := by decide +kernel
theorem dL_act_904 : decode cL_act 904 = .ok (.ishr, 1) := by decide +kernel
theorem dL_act_905 : decode cL_act 905 = .ok (.iconst 4, 1) := by decide +kernel
theorem dL_act_906 : decode cL_act 906 = .ok (.invokestatic 9, 3) := by decide +kernel
theorem dL_act_909 : decode cL_act 909 = .ok (.iastore, 1) := by decide +kernel
theorem dL_act_910 : decode cL_act 910 = .ok (.astore 7, 2) := by decide +kernel
theorem dL_act_912 : decode cL_act 912 = .ok (.aload_n 1, 1) := by decide +kernel
theorem dL_act_913 : decode cL_act 913 = .ok (.getfield 65, 3) := by decide +kernel
theorem dL_act_916 : decode cL_act 916 = .ok (.arraylength, 1) := by decide +kernel
theorem dL_act_917 : decode cL_act 917 = .ok (.istore 8, 2) := by decide +kernel
theorem dL_act_919 : decode cL_act 919 = .ok (.aload_n 0, 1) := by decide +kernel
theorem dL_act_920 : decode cL_act 920 = .ok (.iload_n 3, 1) := by decide +kernel
theorem dL_act_921 : decode cL_act 921 = .ok (.iload 4, 2) := by decide +kernel
theorem dL_act_923 : decode cL_act 923 = .ok (.aload 7, 2) := by decide +kernel
theorem dL_act_925 : decode cL_act 925 = .ok (.iconst 2, 1) := by decide +kernel
theorem dL_act_926 : decode cL_act 926 = .ok (.iaload, 1) := by decide +kernel
theorem dL_act_927 : decode cL_act 927 = .ok (.invokevirtual 68, 3) := by decide +kernel
theorem dL_act_930 : decode cL_act 930 = .ok (.istore 6, 2) := by decide +kernel
theorem dL_act_932 : decode cL_act 932 = .ok (.goto 8, 3) := by decide +kernel
theorem dL_act_935 : decode cL_act 935 = .ok (.astore 9, 2) := by decide +kernel
theorem dL_act_937 : decode cL_act 937 = .ok (.iconst (-1), 1) := by decide +kernel
theorem dL_act_938 : decode cL_act 938 = .ok (.istore 6, 2) := by decide +kernel
theorem dL_act_940 : decode cL_act 940 = .ok (.iload 6, 2) := by decide +kernel
theorem dL_act_942 : decode cL_act 942 = .ok (.iload 8, 2) := by decide +kernel
theorem dL_act_944 : decode cL_act 944 = .ok (.bipush 6, 2) := by decide +kernel
theorem dL_act_946 : decode cL_act 946 = .ok (.if_icmp .ge 8, 3) := by decide +kernel
theorem dL_act_949 : decode cL_act 949 = .ok (.iload 8, 2) := by decide +kernel
theorem dL_act_951 : decode cL_act 951 = .ok (.goto 4, 3) := by decide +kernel
theorem dL_act_954 : decode cL_act 954 = .ok (.iconst (-1), 1) := by decide +kernel
theorem dL_act_955 : decode cL_act 955 = .ok (.if_icmp .eq 5, 3) := by decide +kernel
theorem dL_act_958 : decode cL_act 958 = .ok (.iconst 0, 1) := by decide +kernel
theorem dL_act_959 : decode cL_act 959 = .ok (.ireturn, 1) := by decide +kernel
theorem dL_act_960 : decode cL_act 960 = .ok (.iload 6, 2) := by decide +kernel
theorem dL_act_962 : decode cL_act 962 = .ok (.ifCond .lt 16, 3) := by decide +kernel
theorem dL_act_965 : decode cL_act 965 = .ok (.aload_n 1, 1) := by decide +kernel
theorem dL_act_966 : decode cL_act 966 = .ok (.aload_n 1, 1) := by decide +kernel
theorem dL_act_967 : decode cL_act 967 = .ok (.getfield 65, 3) := by decide +kernel
theorem dL_act_970 : decode cL_act 970 = .ok (.aload 7, 2) := by decide +kernel
theorem dL_act_972 : decode cL_act 972 = .ok (.invokestatic 57, 3) := by decide +kernel
theorem dL_act_975 : decode cL_act 975 = .ok (.putfield 65, 3) := by decide +kernel
theorem dL_act_978 : decode cL_act 978 = .ok (.iconst 1, 1) := by decide +kernel
theorem dL_act_979 : decode cL_act 979 = .ok (.ireturn, 1) := by decide +kernel
theorem dL_act_980 : decode cL_act 980 = .ok (.aload_n 1, 1) := by decide +kernel
theorem dL_act_981 : decode cL_act 981 = .ok (.getfield 65, 3) := by decide +kernel
theorem dL_act_984 : decode cL_act 984 = .ok (.arraylength, 1) := by decide +kernel
theorem dL_act_985 : decode cL_act 985 = .ok (.ifCond .ne 5, 3) := by decide +kernel
theorem dL_act_988 : decode cL_act 988 = .ok (.iconst 1, 1) := by decide +kernel
theorem dL_act_989 : decode cL_act 989 = .ok (.ireturn, 1) := by decide +kernel
theorem dL_act_990 : decode cL_act 990 = .ok (.iconst 2, 1) := by decide +kernel
theorem dL_act_991 : decode cL_act 991 = .ok (.newarray .int, 2) := by decide +kernel
theorem dL_act_993 : decode cL_act 993 = .ok (.dup, 1) := by decide +kernel
theorem dL_act_994 : decode cL_act 994 = .ok (.iconst 0, 1) := by decide +kernel
theorem dL_act_995 : decode cL_act 995 = .ok (.iload_n 2, 1) := by decide +kernel
theorem dL_act_996 : decode cL_act 996 = .ok (.iconst 4, 1) := by decide +kernel
theorem dL_act_997 : decode cL_act 997 = .ok (.ishr, 1) := by decide +kernel
theorem dL_act_998 : decode cL_act 998 = .ok (.aload_n 1, 1) := by decide +kernel
theorem dL_act_999 : decode cL_act 999 = .ok (.getfield 65, 3) := by decide +kernel
theorem dL_act_1002 : decode cL_act 1002 = .ok (.arraylength, 1) := by decide +kernel
theorem dL_act_1003 : decode cL_act 1003 = .ok (.invokestatic 9, 3) := by decide +kernel
theorem dL_act_1006 : decode cL_act 1006 = .ok (.iastore, 1) := by decide +kernel
theorem dL_act_1007 : decode cL_act 1007 = .ok (.dup, 1) := by decide +kernel
theorem dL_act_1008 : decode cL_act 1008 = .ok (.iconst 1, 1) := by decide +kernel
theorem dL_act_1009 : decode cL_act 1009 = .ok (.iconst 0, 1) := by decide +kernel
theorem dL_act_1010 : decode cL_act 1010 = .ok (.iastore, 1) := by decide +kernel
theorem dL_act_1011 : decode cL_act 1011 = .ok (.astore 7, 2) := by decide +kernel
theorem dL_act_1013 : decode cL_act 1013 = .ok (.aload_n 1, 1) := by decide +kernel
theorem dL_act_1014 : decode cL_act 1014 = .ok (.getfield 72, 3) := by decide +kernel
theorem dL_act_1017 : decode cL_act 1017 = .ok (.arraylength, 1) := by decide +kernel
theorem dL_act_1018 : decode cL_act 1018 = .ok (.istore 8, 2) := by decide +kernel
theorem dL_act_1020 : decode cL_act 1020 = .ok (.aload_n 0, 1) := by decide +kernel
theorem dL_act_1021 : decode cL_act 1021 = .ok (.aload 7, 2) := by decide +kernel
theorem dL_act_1023 : decode cL_act 1023 = .ok (.iconst 0, 1) := by decide +kernel
theorem dL_act_1024 : decode cL_act 1024 = .ok (.iaload, 1) := by decide +kernel
theorem dL_act_1025 : decode cL_act 1025 = .ok (.invokevirtual 75, 3) := by decide +kernel
theorem dL_act_1028 : decode cL_act 1028 = .ok (.istore 6, 2) := by decide +kernel
theorem dL_act_1030 : decode cL_act 1030 = .ok (.goto 8, 3) := by decide +kernel
theorem dL_act_1033 : decode cL_act 1033 = .ok (.astore 9, 2) := by decide +kernel
theorem dL_act_1035 : decode cL_act 1035 = .ok (.iconst (-1), 1) := by decide +kernel
theorem dL_act_1036 : decode cL_act 1036 = .ok (.istore 6, 2) := by decide +kernel
theorem dL_act_1038 : decode cL_act 1038 = .ok (.iload 6, 2) := by decide +kernel
theorem dL_act_1040 : decode cL_act 1040 = .ok (.iload 8, 2) := by decide +kernel
theorem dL_act_1042 : decode cL_act 1042 = .ok (.iconst 5, 1) := by decide +kernel
theorem dL_act_1043 : decode cL_act 1043 = .ok (.if_icmp .ge 8, 3) := by decide +kernel
theorem dL_act_1046 : decode cL_act 1046 = .ok (.iload 8, 2) := by decide +kernel
theorem dL_act_1048 : decode cL_act 1048 = .ok (.goto 4, 3) := by decide +kernel
theorem dL_act_1051 : decode cL_act 1051 = .ok (.iconst (-1), 1) := by decide +kernel
theorem dL_act_1052 : decode cL_act 1052 = .ok (.if_icmp .eq 5, 3) := by decide +kernel
theorem dL_act_1055 : decode cL_act 1055 = .ok (.iconst 0, 1) := by decide +kernel
theorem dL_act_1056 : decode cL_act 1056 = .ok (.ireturn, 1) := by decide +kernel
theorem dL_act_1057 : decode cL_act 1057 = .ok (.iload 6, 2) := by decide +kernel
theorem dL_act_1059 : decode cL_act 1059 = .ok (.ifCond .lt 16, 3) := by decide +kernel
theorem dL_act_1062 : decode cL_act 1062 = .ok (.aload_n 1, 1) := by decide +kernel
theorem dL_act_1063 : decode cL_act 1063 = .ok (.aload_n 1, 1) := by decide +kernel
theorem dL_act_1064 : decode cL_act 1064 = .ok (.getfield 72, 3) := by decide +kernel
theorem dL_act_1067 : decode cL_act 1067 = .ok (.aload 7, 2) := by decide +kernel
theorem dL_act_1069 : decode cL_act 1069 = .ok (.invokestatic 57, 3) := by decide +kernel
theorem dL_act_1072 : decode cL_act 1072 = .ok (.putfield 72, 3) := by decide +kernel
theorem dL_act_1075 : decode cL_act 1075 = .ok (.iconst 1, 1) := by decide +kernel
theorem dL_act_1076 : decode cL_act 1076 = .ok (.ireturn, 1) := by decide +kernel
theorem dL_act_1077 : decode cL_act 1077 = .ok (.aload_n 1, 1) := by decide +kernel
theorem dL_act_1078 : decode cL_act 1078 = .ok (.getfield 72, 3) := by decide +kernel
theorem dL_act_1081 : decode cL_act 1081 = .ok (.arraylength, 1) := by decide +kernel
theorem dL_act_1082 : decode cL_act 1082 = .ok (.ifCond .ne 5, 3) := by decide +kernel
theorem dL_act_1085 : decode cL_act 1085 = .ok (.iconst 1, 1) := by decide +kernel
theorem dL_act_1086 : decode cL_act 1086 = .ok (.ireturn, 1) := by decide +kernel
theorem dL_act_1087 : decode cL_act 1087 = .ok (.iload_n 2, 1) := by decide +kernel
theorem dL_act_1088 : decode cL_act 1088 = .ok (.iconst 4, 1) := by decide +kernel
theorem dL_act_1089 : decode cL_act 1089 = .ok (.ishr, 1) := by decide +kernel
theorem dL_act_1090 : decode cL_act 1090 = .ok (.aload_n 1, 1) := by decide +kernel
theorem dL_act_1091 : decode cL_act 1091 = .ok (.getfield 72, 3) := by decide +kernel
theorem dL_act_1094 : decode cL_act 1094 = .ok (.arraylength, 1) := by decide +kernel
theorem dL_act_1095 : decode cL_act 1095 = .ok (.invokestatic 9, 3) := by decide +kernel
theorem dL_act_1098 : decode cL_act 1098 = .ok (.istore 7, 2) := by decide +kernel
theorem dL_act_1100 : decode cL_act 1100 = .ok (.aload_n 1, 1) := by decide +kernel
theorem dL_act_1101 : decode cL_act 1101 = .ok (.getfield 72, 3) := by decide +kernel
theorem dL_act_1104 : decode cL_act 1104 = .ok (.iload 7, 2) := by decide +kernel
theorem dL_act_1106 : decode cL_act 1106 = .ok (.aaload, 1) := by decide +kernel
theorem dL_act_1107 : decode cL_act 1107 = .ok (.iconst 0, 1) := by decide +kernel
theorem dL_act_1108 : decode cL_act 1108 = .ok (.iaload, 1) := by decide +kernel
theorem dL_act_1109 : decode cL_act 1109 = .ok (.istore 8, 2) := by decide +kernel
theorem dL_act_1111 : decode cL_act 1111 = .ok (.aload_n 1, 1) := by decide +kernel
theorem dL_act_1112 : decode cL_act 1112 = .ok (.getfield 72, 3) := by decide +kernel
theorem dL_act_1115 : decode cL_act 1115 = .ok (.iload 7, 2) := by decide +kernel
theorem dL_act_1117 : decode cL_act 1117 = .ok (.aaload, 1) := by decide +kernel
theorem dL_act_1118 : decode cL_act 1118 = .ok (.iconst 0, 1) := by decide +kernel
theorem dL_act_1119 : decode cL_act 1119 = .ok (.iload_n 2, 1) := by decide +kernel
theorem dL_act_1120 : decode cL_act 1120 = .ok (.bipush 6, 2) := by decide +kernel
theorem dL_act_1122 : decode cL_act 1122 = .ok (.ishr, 1) := by decide +kernel
theorem dL_act_1123 : decode cL_act 1123 = .ok (.aload_n 1, 1) := by decide +kernel
theorem dL_act_1124 : decode cL_act 1124 = .ok (.getfield 65, 3) := by decide +kernel
theorem dL_act_1127 : decode cL_act 1127 = .ok (.arraylength, 1) := by decide +kernel
theorem dL_act_1128 : decode cL_act 1128 = .ok (.invokestatic 9, 3) := by decide +kernel
theorem dL_act_1131 : decode cL_act 1131 = .ok (.iastore, 1) := by decide +kernel
theorem dL_act_1132 : decode cL_act 1132 = .ok (.aload_n 0, 1) := by decide +kernel
theorem dL_act_1133 : decode cL_act 1133 = .ok (.iload 7, 2) := by decide +kernel
theorem dL_act_1135 : decode cL_act 1135 = .ok (.aload_n 1, 1) := by decide +kernel
theorem dL_act_1136 : decode cL_act 1136 = .ok (.getfield 72, 3) := by decide +kernel
theorem dL_act_1139 : decode cL_act 1139 = .ok (.iload 7, 2) := by decide +kernel
theorem dL_act_1141 : decode cL_act 1141 = .ok (.aaload, 1) := by decide +kernel
theorem dL_act_1142 : decode cL_act 1142 = .ok (.iconst 0, 1) := by decide +kernel
theorem dL_act_1143 : decode cL_act 1143 = .ok (.iaload, 1) := by decide +kernel
theorem dL_act_1144 : decode cL_act 1144 = .ok (.invokevirtual 78, 3) := by decide +kernel
theorem dL_act_1147 : decode cL_act 1147 = .ok (.iload 8, 2) := by decide +kernel
theorem dL_act_1149 : decode cL_act 1149 = .ok (.if_icmp .ne 7, 3) := by decide +kernel
theorem dL_act_1152 : decode cL_act 1152 = .ok (.iconst 1, 1) := by decide +kernel
theorem dL_act_1153 : decode cL_act 1153 = .ok (.goto 4, 3) := by decide +kernel
theorem dL_act_1156 : decode cL_act 1156 = .ok (.iconst 0, 1) := by decide +kernel
theorem dL_act_1157 : decode cL_act 1157 = .ok (.ireturn, 1) := by decide +kernel
set_option maxRecDepth 20000 in
theorem ggL_build_X7_init : GoodIn wsL_build wsX7_init := goodIn_r _ [7, 8, 9, 10, 11, 12, 13, 14, 15, 16, 416, 417, 418, 419, 420, 421] (by decide +kernel) (by decide +kernel)
set_option maxRecDepth 20000 in
theorem gL_build_X7_init_n81 : GoodIn wsL_build (wsX7_init) := ggL_build_X7_init
set_option maxRecDepth 20000 in
theorem ggL_build_L_cell : GoodIn wsL_build wsL_cell := goodIn_r _ [20, 21] (by decide +kernel) (by decide +kernel)
set_option maxRecDepth 20000 in
theorem gL_build_L_cell : GoodIn wsL_build (va_wsS RL 82 yL_cell wsL_cell) := goodIn_app (goodIn_of _ (by decide +kernel)) ggL_build_L_cell
set_option maxRecDepth 20000 in
theorem ggL_build_L_below : GoodIn wsL_build wsL_below := goodIn_r _ [24, 25] (by decide +kernel) (by decide +kernel)
set_option maxRecDepth 20000 in
theorem gL_build_L_below : GoodIn wsL_build (va_wsS RL 9 yL_below wsL_below) := goodIn_app (goodIn_of _ (by decide +kernel)) ggL_build_L_below
set_option maxRecDepth 20000 in
theorem ggL_build_L_act : GoodIn wsL_build wsL_act := goodIn_ca (goodIn_ca (goodIn_ca (goodIn_r _ [28, 29, 30, 31, 4, 32, 33, 34, 22, 23, 19, 24, 25, 35, 36, 37, 38, 39, 40, 41, 42, 43, 44, 45, 46, 47, 48, 49, 50, 51, 52, 53, 54, 55, 56, 57, 58, 59, 60, 61, 62, 63, 64, 65, 66, 67, 68, 69, 70, 71, 72, 73, 74, 75, 76, 77, 78, 79, 80, 81, 82, 83, 84, 85, 86, 87, 88, 89, 90, 91, 92, 93, 94, 95, 96, 97, 98, 99, 100, 101, 102, 103, 104, 105, 106, 107, 108, 109, 110, 111, 112, 113, 114, 115, 116, 117, 118, 119, 120, 121, 122, 123, 124, 125, 126, 127, 128, 129, 130, 131, 132, 133, 134, 135, 136, 137, 138, 139, 140, 141, 142, 143, 144, 145, 3, 146, 147, 148, 12, 149, 150, 151, 152, 153, 154, 155, 156, 157, 158, 159, 160, 161, 162, 163, 164, 165, 166, 167, 168, 169, 170, 171, 172, 173, 174, 175, 176, 177, 178, 179, 180, 181, 182, 183, 184, 185, 186, 187, 188, 189, 190, 191, 192, 193, 194, 195, 196, 197, 198, 199, 200, 201, 202, 203, 204, 205, 206, 207, 208, 209, 210, 211, 212, 213, 214, 13, 215, 216, 217, 218, 219, 220, 221, 222, 223, 224, 225, 226, 227, 228, 229, 230, 231, 232, 233, 234, 235, 236, 237, 238, 239, 240, 241, 242, 243, 244, 245, 246, 247, 248, 249, 250, 251, 252, 253, 254, 255, 256, 257, 258, 259, 260, 261, 262, 263, 264, 265, 266, 267, 268, 269, 270, 271, 272, 273, 274, 275, 276, 277, 278, 279, 280, 281, 282, 283, 284, 285, 286, 287, 288, 289, 290, 291, 292, 293, 294, 416, 417, 418, 419, 420, 421, 422, 423, 424, 425, 426, 427, 428, 429, 430, 431, 432, 433, 434, 435, 436, 437, 438, 439, 440, 441, 442, 443, 444, 445, 446, 447, 448, 449] (by decide +kernel) (by decide +kernel)) (goodIn_sub (fun _ h => List.mem_cons_of_mem _ (List.mem_append_left _ (List.mem_append_left _ (List.mem_append_right _ h)))) (by decide +kernel))) (goodIn_sub (fun _ h => List.mem_cons_of_mem _ (List.mem_append_left _ (List.mem_append_right _ h))) (by decide +kernel))) (goodIn_sub (fun _ h => List.mem_cons_of_mem _ (List.mem_append_right _ h)) (by decide +kernel))
set_option maxRecDepth 20000 in
theorem gL_build_L_act : GoodIn wsL_build (va_wsS RL 87 yL_act wsL_act) := goodIn_app (goodIn_of _ (by decide +kernel)) ggL_build_L_act
set_option maxRecDepth 20000 in
theorem ggL_build_X6_pass : GoodIn wsL_build wsX6_pass := goodIn_ca (goodIn_r _ [298, 41, 299, 300, 301, 38, 302, 57, 58, 303, 304, 305, 306, 42, 307, 308, 309, 310, 311, 184, 185, 40, 223, 224, 225, 190, 226, 194, 227, 228, 229, 230, 192, 235, 236, 237, 238, 193, 312, 313, 314, 51, 315, 316, 317, 318, 319, 117, 139, 140, 141, 142, 106, 77, 78, 79, 320, 136, 137, 138, 116, 239, 240, 241, 198, 242, 200, 195, 196, 197, 199, 201, 202, 203, 204, 205, 206, 207, 321, 322, 323, 324, 262, 263, 325, 326, 327, 328, 329, 283, 284, 285, 271, 286, 274, 287, 288, 289, 290, 273, 330, 331, 332, 333, 334, 247, 335, 336, 337, 338, 339, 340, 341, 342, 343, 344, 345, 346, 347, 348, 253, 349, 257, 350, 351, 352, 353, 255, 354, 355, 356, 357, 256, 358, 125, 126, 127, 128, 129, 130, 131, 132, 133, 50, 52, 134, 60, 61, 359, 360, 361, 362, 72, 73, 74, 75, 76, 363, 364, 365, 366, 367, 368, 369, 370, 371, 372, 92, 168, 169, 170, 171, 93, 373, 374, 375, 376, 377, 378, 379, 380, 381, 382, 383, 384, 385, 386, 387, 388, 389, 390, 391, 392, 393, 394, 395, 422, 423, 424, 425, 426, 427, 428, 429, 430, 431, 432, 442, 443, 444, 433, 434, 435, 436, 437, 438, 439, 440, 441, 448, 449, 450, 451, 452, 453, 454, 445, 446, 447] (by decide +kernel) (by decide +kernel)) (goodIn_sub (fun _ h => List.mem_cons_of_mem _ (List.mem_append_left _ (List.mem_append_right _ h))) (by decide +kernel))
set_option maxRecDepth 20000 in
theorem gL_build_X6_pass : GoodIn wsL_build (wsV RL 91 RX6 yX6_pass wsX6_pass) := goodIn_app (goodIn_of _ (by decide +kernel)) ggL_build_X6_pass
set_option maxRecDepth 20000 in
theorem ggL_build_X7_pass : GoodIn wsL_build wsX7_pass := goodIn_r _ [399, 14, 16, 15, 400, 11, 401, 144, 145, 3, 146, 147, 148, 12, 402, 403, 404, 405, 406, 150, 151, 407, 408, 409, 410, 411, 412, 413, 414, 13, 4, 415, 213, 214, 416, 417, 418, 419, 420, 421] (by decide +kernel) (by decide +kernel)
set_option maxRecDepth 20000 in
theorem gL_build_X7_pass : GoodIn wsL_build (wsV RL 94 RX7 yX7_pass wsX7_pass) := goodIn_app (goodIn_of _ (by decide +kernel)) ggL_build_X7_pass
theorem dL_build_0 : decode cL_build 0 = .ok (.new 16, 3) := by decide +kernel
theorem dL_build_3 : decode cL_build 3 = .ok (.dup, 1) := by decide +kernel
theorem dL_build_4 : decode cL_build 4 = .ok (.invokespecial 81, 3) := by decide +kernel
theorem dL_build_7 : decode cL_build 7 = .ok (.astore_n 2, 1) := by decide +kernel
theorem dL_build_8 : decode cL_build 8 = .ok (.bipush 12, 2) := by decide +kernel
theorem dL_build_10 : decode cL_build 10 = .ok (.newarray .int, 2) := by decide +kernel
theorem dL_build_12 : decode cL_build 12 = .ok (.dup, 1) := by decide +kernel
theorem dL_build_13 : decode cL_build 13 = .ok (.iconst 0, 1) := by decide +kernel
theorem dL_build_14 : decode cL_build 14 = .ok (.iconst 2, 1) := by decide +kernel
theorem dL_build_15 : decode cL_build 15 = .ok (.iastore, 1) := by decide +kernel
theorem dL_build_16 : decode cL_build 16 = .ok (.dup, 1) := by decide +kernel
theorem dL_build_17 : decode cL_build 17 = .ok (.iconst 1, 1) := by decide +kernel
theorem dL_build_18 : decode cL_build 18 = .ok (.iconst 3, 1) := by decide +kernel
theorem dL_build_19 : decode cL_build 19 = .ok (.iastore, 1) := by decide +kernel
theorem dL_build_20 : decode cL_build 20 = .ok (.dup, 1) := by decide +kernel
theorem dL_build_21 : decode cL_build 21 = .ok (.iconst 2, 1) := by decide +kernel
theorem dL_build_22 : decode cL_build 22 = .ok (.iconst 0, 1) := by decide +kernel
theorem dL_build_23 : decode cL_build 23 = .ok (.iastore, 1) := by decide +kernel
theorem dL_build_24 : decode cL_build 24 = .ok (.dup, 1) := by decide +kernel
theorem dL_build_25 : decode cL_build 25 = .ok (.iconst 3, 1) := by decide +kernel
theorem dL_build_26 : decode cL_build 26 = .ok (.bipush 11, 2) := by decide +kernel
theorem dL_build_28 : decode cL_build 28 = .ok (.iastore, 1) := by decide +kernel
theorem dL_build_29 : decode cL_build 29 = .ok (.dup, 1) := by decide +kernel
theorem dL_build_30 : decode cL_build 30 = .ok (.iconst 4, 1) := by decide +kernel
theorem dL_build_31 : decode cL_build 31 = .ok (.bipush 13, 2) := by decide +kernel
theorem dL_build_33 : decode cL_build 33 = .ok (.iastore, 1) := by decide +kernel
theorem dL_build_34 : decode cL_build 34 = .ok (.dup, 1) := by decide +kernel
theorem dL_build_35 : decode cL_build 35 = .ok (.iconst 5, 1) := by decide +kernel
theorem dL_build_36 : decode cL_build 36 = .ok (.bipush 7, 2) := by decide +kernel
theorem dL_build_38 : decode cL_build 38 = .ok (.iastore, 1) := by decide +kernel
theorem dL_build_39 : decode cL_build 39 = .ok (.dup, 1) := by decide +kernel
theorem dL_build_40 : decode cL_build 40 = .ok (.bipush 6, 2) := by decide +kernel
theorem dL_build_42 : decode cL_build 42 = .ok (.iconst 1, 1) := by decide +kernel
theorem dL_build_43 : decode cL_build 43 = .ok (.iastore, 1) := by decide +kernel
theorem dL_build_44 : decode cL_build 44 = .ok (.dup, 1) := by decide +kernel
theorem dL_build_45 : decode cL_build 45 = .ok (.bipush 7, 2) := by decide +kernel
theorem dL_build_47 : decode cL_build 47 = .ok (.bipush 8, 2) := by decide +kernel
theorem dL_build_49 : decode cL_build 49 = .ok (.iastore, 1) := by decide +kernel
theorem dL_build_50 : decode cL_build 50 = .ok (.dup, 1) := by decide +kernel
theorem dL_build_51 : decode cL_build 51 = .ok (.bipush 8, 2) := by decide +kernel
theorem dL_build_53 : decode cL_build 53 = .ok (.bipush 12, 2) := by decide +kernel
theorem dL_build_55 : decode cL_build 55 = .ok (.iastore, 1) := by decide +kernel
theorem dL_build_56 : decode cL_build 56 = .ok (.dup, 1) := by decide +kernel
theorem dL_build_57 : decode cL_build 57 = .ok (.bipush 9, 2) := by decide +kernel
theorem dL_build_59 : decode cL_build 59 = .ok (.bipush 13, 2) := by decide +kernel
theorem dL_build_61 : decode cL_build 61 = .ok (.iastore, 1) := by decide +kernel
theorem dL_build_62 : decode cL_build 62 = .ok (.dup, 1) := by decide +kernel
theorem dL_build_63 : decode cL_build 63 = .ok (.bipush 10, 2) := by decide +kernel
theorem dL_build_65 : decode cL_build 65 = .ok (.iconst 2, 1) := by decide +kernel
theorem dL_build_66 : decode cL_build 66 = .ok (.iastore, 1) := by decide +kernel
theorem dL_build_67 : decode cL_build 67 = .ok (.dup, 1) := by decide +kernel
theorem dL_build_68 : decode cL_build 68 = .ok (.bipush 11, 2) := by decide +kernel
theorem dL_build_70 : decode cL_build 70 = .ok (.bipush 9, 2) := by decide +kernel
theorem dL_build_72 : decode cL_build 72 = .ok (.iastore, 1) := by decide +kernel
theorem dL_build_73 : decode cL_build 73 = .ok (.astore_n 3, 1) := by decide +kernel
theorem dL_build_74 : decode cL_build 74 = .ok (.iconst 0, 1) := by decide +kernel
theorem dL_build_75 : decode cL_build 75 = .ok (.istore 4, 2) := by decide +kernel
theorem dL_build_77 : decode cL_build 77 = .ok (.iload 4, 2) := by decide +kernel
theorem dL_build_79 : decode cL_build 79 = .ok (.bipush 44, 2) := by decide +kernel
theorem dL_build_81 : decode cL_build 81 = .ok (.if_icmp .ge 102, 3) := by decide +kernel
theorem dL_build_84 : decode cL_build 84 = .ok (.aload_n 1, 1) := by decide +kernel
theorem dL_build_85 : decode cL_build 85 = .ok (.iload 4, 2) := by decide +kernel
theorem dL_build_87 : decode cL_build 87 = .ok (.bipush 16, 2) := by decide +kernel
theorem dL_build_89 : decode cL_build 89 = .ok (.irem, 1) := by decide +kernel
theorem dL_build_90 : decode cL_build 90 = .ok (.invokestatic 82, 3) := by decide +kernel
theorem dL_build_93 : decode cL_build 93 = .ok (.iload 4, 2) := by decide +kernel
theorem dL_build_95 : decode cL_build 95 = .ok (.bipush 16, 2) := by decide +kernel
theorem dL_build_97 : decode cL_build 97 = .ok (.idiv, 1) := by decide +kernel
theorem dL_build_98 : decode cL_build 98 = .ok (.iconst 5, 1) := by decide +kernel
theorem dL_build_99 : decode cL_build 99 = .ok (.imul, 1) := by decide +kernel
theorem dL_build_100 : decode cL_build 100 = .ok (.ishr, 1) := by decide +kernel
theorem dL_build_101 : decode cL_build 101 = .ok (.bipush 61, 2) := by decide +kernel
theorem dL_build_103 : decode cL_build 103 = .ok (.iload 4, 2) := by decide +kernel
theorem dL_build_105 : decode cL_build 105 = .ok (.imul, 1) := by decide +kernel
theorem dL_build_106 : decode cL_build 106 = .ok (.iadd, 1) := by decide +kernel
theorem dL_build_107 : decode cL_build 107 = .ok (.istore 5, 2) := by decide +kernel
theorem dL_build_109 : decode cL_build 109 = .ok (.iload 4, 2) := by decide +kernel
theorem dL_build_111 : decode cL_build 111 = .ok (.bipush 12, 2) := by decide +kernel
theorem dL_build_113 : decode cL_build 113 = .ok (.if_icmp .ge 20, 3) := by decide +kernel
theorem dL_build_116 : decode cL_build 116 = .ok (.iload 5, 2) := by decide +kernel
theorem dL_build_118 : decode cL_build 118 = .ok (.ldc 86, 2) := by decide +kernel
theorem dL_build_120 : decode cL_build 120 = .ok (.invokestatic 9, 3) := by decide +kernel
theorem dL_build_123 : decode cL_build 123 = .ok (.bipush 15, 2) := by decide +kernel
theorem dL_build_125 : decode cL_build 125 = .ok (.imul, 1) := by decide +kernel
theorem dL_build_126 : decode cL_build 126 = .ok (.aload_n 3, 1) := by decide +kernel
theorem dL_build_127 : decode cL_build 127 = .ok (.iload 4, 2) := by decide +kernel
theorem dL_build_129 : decode cL_build 129 = .ok (.iaload, 1) := by decide +kernel
theorem dL_build_130 : decode cL_build 130 = .ok (.iadd, 1) := by decide +kernel
theorem dL_build_131 : decode cL_build 131 = .ok (.istore 5, 2) := by decide +kernel
theorem dL_build_133 : decode cL_build 133 = .ok (.aload_n 0, 1) := by decide +kernel
theorem dL_build_134 : decode cL_build 134 = .ok (.aload_n 2, 1) := by decide +kernel
theorem dL_build_135 : decode cL_build 135 = .ok (.iload 5, 2) := by decide +kernel
theorem dL_build_137 : decode cL_build 137 = .ok (.invokestatic 87, 3) := by decide +kernel
theorem dL_build_140 : decode cL_build 140 = .ok (.ifCond .ne 5, 3) := by decide +kernel
theorem dL_build_143 : decode cL_build 143 = .ok (.aconst_null, 1) := by decide +kernel
theorem dL_build_144 : decode cL_build 144 = .ok (.areturn, 1) := by decide +kernel
theorem dL_build_145 : decode cL_build 145 = .ok (.iload 4, 2) := by decide +kernel
theorem dL_build_147 : decode cL_build 147 = .ok (.bipush 9, 2) := by decide +kernel
theorem dL_build_149 : decode cL_build 149 = .ok (.if_icmp .le 28, 3) := by decide +kernel
theorem dL_build_152 : decode cL_build 152 = .ok (.iload 5, 2) := by decide +kernel
theorem dL_build_154 : decode cL_build 154 = .ok (.iconst 5, 1) := by decide +kernel
theorem dL_build_155 : decode cL_build 155 = .ok (.ishr, 1) := by decide +kernel
theorem dL_build_156 : decode cL_build 156 = .ok (.iconst 2, 1) := by decide +kernel
theorem dL_build_157 : decode cL_build 157 = .ok (.invokestatic 9, 3) := by decide +kernel
theorem dL_build_160 : decode cL_build 160 = .ok (.ifCond .ne 17, 3) := by decide +kernel
theorem dL_build_163 : decode cL_build 163 = .ok (.aload_n 0, 1) := by decide +kernel
theorem dL_build_164 : decode cL_build 164 = .ok (.iconst 1, 1) := by decide +kernel
theorem dL_build_165 : decode cL_build 165 = .ok (.invokevirtual 91, 3) := by decide +kernel
theorem dL_build_168 : decode cL_build 168 = .ok (.aload_n 2, 1) := by decide +kernel
theorem dL_build_169 : decode cL_build 169 = .ok (.invokevirtual 94, 3) := by decide +kernel
theorem dL_build_172 : decode cL_build 172 = .ok (.if_icmp .eq 5, 3) := by decide +kernel
theorem dL_build_175 : decode cL_build 175 = .ok (.aconst_null, 1) := by decide +kernel
theorem dL_build_176 : decode cL_build 176 = .ok (.areturn, 1) := by decide +kernel
theorem dL_build_177 : decode cL_build 177 = .ok (.iinc 4 1, 3) := by decide +kernel
theorem dL_build_180 : decode cL_build 180 = .ok (.goto (-103), 3) := by decide +kernel
theorem dL_build_183 : decode cL_build 183 = .ok (.aload_n 2, 1) := by decide +kernel
theorem dL_build_184 : decode cL_build 184 = .ok (.areturn, 1) := by decide +kernel
set_option maxRecDepth 20000 in
theorem ggL_law_X6_init : GoodIn wsL_law wsX6_init := goodIn_r _ [19, 20, 21, 22, 23, 24, 25, 26, 27, 28, 29, 30, 31, 32, 33, 34, 35, 36, 37, 38, 39, 40, 41, 42, 43, 44, 45, 46, 47, 48, 49, 50, 51, 8, 52, 53, 54, 55, 56, 57, 58, 59, 60, 61, 62, 63, 64, 65, 9, 66, 67, 68, 69, 70, 71, 72, 73, 74, 75, 76, 77, 78, 79, 80, 81, 82, 83, 84, 85, 86, 87, 88, 89, 90, 91, 606, 607, 608, 609, 610, 611, 612, 613, 614, 593, 594, 595, 596, 597, 598, 599, 615, 616, 617, 618, 619, 620, 621, 622, 623, 624, 625, 626, 627, 628, 629, 630, 631] (by decide +kernel) (by decide +kernel)
set_option maxRecDepth 20000 in
theorem gL_law_X6_init : GoodIn wsL_law (wsX6_init) := ggL_law_X6_init
set_option maxRecDepth 20000 in
theorem ggL_law_L_build : GoodIn wsL_law wsL_build := goodIn_ca (goodIn_ca (goodIn_ca (goodIn_r _ [95, 96, 97, 98, 8, 99, 100, 101, 102, 21, 22, 103, 104, 105, 106, 107, 108, 109, 110, 94, 111, 112, 113, 114, 115, 116, 117, 118, 119, 120, 121, 122, 7, 123, 16, 124, 125, 126, 2, 127, 26, 42, 128, 129, 130, 131, 132, 133, 134, 135, 136, 25, 137, 138, 139, 140, 141, 142, 143, 144, 145, 146, 147, 148, 149, 150, 151, 152, 153, 154, 155, 156, 157, 158, 159, 160, 52, 161, 162, 163, 164, 165, 166, 167, 168, 169, 170, 171, 172, 173, 174, 175, 53, 54, 176, 177, 178, 179, 180, 181, 182, 183, 184, 185, 186, 187, 56, 60, 188, 189, 190, 191, 192, 193, 194, 195, 57, 58, 59, 55, 196, 197, 198, 199, 200, 201, 202, 203, 204, 205, 206, 207, 208, 209, 210, 211, 212, 213, 214, 215, 216, 217, 218, 219, 220, 221, 222, 223, 9, 224, 225, 226, 227, 228, 229, 230, 231, 232, 233, 234, 235, 236, 237, 238, 239, 240, 241, 242, 243, 244, 245, 246, 247, 248, 249, 250, 251, 252, 253, 254, 255, 256, 257, 258, 30, 259, 260, 261, 262, 263, 29, 264, 67, 65, 66, 265, 266, 267, 41, 268, 87, 269, 14, 5, 15, 270, 11, 12, 271, 272, 273, 274, 275, 276, 277, 278, 279, 280, 281, 282, 283, 284, 285, 286, 287, 288, 289, 290, 291, 292, 293, 294, 295, 296, 297, 298, 299, 300, 301, 302, 303, 304, 305, 306, 307, 308, 309, 34, 310, 311, 312, 313, 314, 33, 315, 74, 72, 73, 316, 317, 318, 319, 38, 320, 321, 322, 323, 324, 325, 326, 327, 37, 328, 80, 79, 329, 330, 331, 332, 333, 334, 335, 336, 337, 338, 339, 340, 341, 342, 343, 344, 345, 346, 347, 348, 349, 350, 351, 352, 353, 354, 355, 356, 357, 358, 359, 360, 361, 362, 363, 364, 365, 366, 367, 368, 369, 370, 371, 372, 373, 374, 375, 376, 377, 378, 379, 380, 381, 382, 85, 383, 384, 385, 386, 47, 387, 388, 389, 390, 46, 391, 392, 393, 394, 395, 396, 397, 398, 399, 400, 401, 402, 403, 404, 405, 406, 407, 408, 409, 410, 411, 412, 413, 414, 415, 416, 417, 418, 419, 420, 421, 422, 423, 424, 425, 426, 427, 428, 429, 430, 431, 432, 433, 434, 435, 436, 437, 438, 439, 440, 441, 442, 443, 444, 445, 88, 446, 447, 448, 449, 450, 451, 452, 453, 454, 455, 456, 457, 458, 459, 460, 461, 462, 463, 464, 465, 600, 601, 602, 603, 604, 605, 593, 594, 595, 596, 597, 598, 599, 623, 624, 625, 626, 606, 607, 608, 609, 610, 611, 612, 613, 614, 615, 616, 617, 618, 619, 620, 621, 622, 627, 628, 629, 630, 631] (by decide +kernel) (by decide +kernel)) (goodIn_sub (fun _ h => List.mem_append_left _ (List.mem_append_left _ (List.mem_append_right _ h))) (by decide +kernel))) (goodIn_sub (fun _ h => List.mem_append_left _ (List.mem_append_right _ h)) (by decide +kernel))) (goodIn_sub (fun _ h => List.mem_append_right _ h) (by decide +kernel))
set_option maxRecDepth 20000 in
theorem gL_law_L_build : GoodIn wsL_law (va_wsS RL 98 yL_build wsL_build) := goodIn_app (goodIn_of _ (by decide +kernel)) ggL_law_L_build
set_option maxRecDepth 20000 in
theorem ggL_law_L_cell : GoodIn wsL_law wsL_cell := goodIn_r _ [111, 112] (by decide +kernel) (by decide +kernel)
set_option maxRecDepth 20000 in
theorem gL_law_L_cell : GoodIn wsL_law (va_wsS RL 82 yL_cell wsL_cell) := goodIn_app (goodIn_of _ (by decide +kernel)) ggL_law_L_cell
set_option maxRecDepth 20000 in
theorem ggL_law_X6_count : GoodIn wsL_law wsX6_count := goodIn_ca (goodIn_r _ [469, 42, 361, 26, 470, 30, 34, 310, 38, 320, 471, 472, 473, 2, 474, 133, 134, 379, 380, 381, 41, 382, 85, 475, 476, 477, 25, 478, 52, 479, 480, 481, 29, 482, 67, 483, 287, 288, 289, 66, 290, 291, 292, 293, 484, 485, 486, 487, 128, 488, 489, 490, 491, 432, 303, 304, 305, 87, 492, 493, 494, 495, 88, 593, 594, 595, 596, 597, 598, 599, 623, 624, 625, 626, 606, 607, 608, 609, 610, 611, 612, 613, 614, 618, 619, 620, 621, 622, 615, 616, 617] (by decide +kernel) (by decide +kernel)) (goodIn_sub (fun _ h => List.mem_append_left _ (List.mem_append_left _ (List.mem_append_right _ h))) (by decide +kernel))
set_option maxRecDepth 20000 in
theorem gL_law_X6_count : GoodIn wsL_law (wsV RL 102 RX6 yX6_count wsX6_count) := goodIn_app (goodIn_of _ (by decide +kernel)) ggL_law_X6_count
set_option maxRecDepth 20000 in
theorem ggL_law_L_act : GoodIn wsL_law wsL_act := goodIn_ca (goodIn_ca (goodIn_ca (goodIn_r _ [119, 120, 121, 122, 8, 7, 123, 16, 113, 114, 94, 115, 116, 124, 125, 126, 2, 127, 26, 42, 128, 129, 130, 131, 132, 133, 134, 135, 136, 25, 137, 138, 139, 140, 141, 142, 143, 144, 145, 146, 147, 148, 149, 150, 151, 152, 153, 154, 155, 156, 157, 158, 159, 160, 52, 161, 162, 163, 164, 165, 166, 167, 168, 169, 170, 171, 172, 173, 174, 175, 53, 54, 176, 177, 178, 179, 180, 181, 182, 183, 184, 185, 186, 187, 56, 60, 188, 189, 190, 191, 192, 193, 194, 195, 57, 58, 59, 55, 196, 197, 198, 199, 200, 201, 202, 203, 204, 205, 206, 207, 208, 209, 210, 211, 212, 213, 214, 215, 216, 217, 218, 219, 220, 221, 98, 222, 223, 9, 104, 224, 225, 226, 227, 228, 229, 230, 231, 232, 233, 234, 235, 236, 237, 238, 239, 240, 241, 242, 243, 244, 245, 246, 247, 248, 249, 250, 251, 252, 253, 254, 255, 256, 257, 258, 30, 259, 260, 261, 262, 263, 29, 264, 67, 65, 66, 265, 266, 267, 41, 268, 87, 269, 14, 5, 15, 270, 11, 12, 271, 272, 273, 274, 275, 276, 277, 105, 278, 279, 280, 281, 282, 283, 284, 285, 286, 287, 288, 289, 290, 291, 292, 293, 294, 295, 296, 297, 298, 299, 300, 301, 302, 303, 304, 305, 306, 307, 308, 309, 34, 310, 311, 312, 313, 314, 33, 315, 74, 72, 73, 316, 317, 318, 319, 38, 320, 321, 322, 323, 324, 325, 326, 327, 37, 328, 80, 79, 329, 330, 331, 332, 333, 334, 335, 336, 337, 338, 339, 340, 341, 342, 343, 344, 345, 346, 347, 348, 600, 601, 602, 603, 604, 605, 593, 594, 595, 596, 597, 598, 599, 623, 624, 625, 626, 606, 607, 608, 609, 610, 611, 612, 613, 614, 615, 616, 617, 618, 619, 620, 621, 622] (by decide +kernel) (by decide +kernel)) (goodIn_sub (fun _ h => List.mem_append_left _ (List.mem_append_left _ (List.mem_append_right _ h))) (by decide +kernel))) (goodIn_sub (fun _ h => List.mem_append_left _ (List.mem_append_right _ h)) (by decide +kernel))) (goodIn_sub (fun _ h => List.mem_append_right _ h) (by decide +kernel))
set_option maxRecDepth 20000 in
theorem gL_law_L_act : GoodIn wsL_law (va_wsS RL 87 yL_act wsL_act) := goodIn_app (goodIn_of _ (by decide +kernel)) ggL_law_L_act
set_option maxRecDepth 20000 in
theorem ggL_law_X6_cell : GoodIn wsL_law wsX6_cell := goodIn_ca (goodIn_r _ [499, 26, 129, 130, 131, 2, 132, 133, 134, 135, 136, 25, 137, 471, 472, 473, 474, 144, 145, 146, 419, 158, 159, 160, 52, 161, 162, 163, 420, 421, 422, 423, 53, 243, 244, 245, 246, 54, 211, 212, 213, 214, 57, 215, 216, 217, 218, 56, 500, 371, 372, 373, 58, 593, 594, 595, 596, 597, 598, 599, 606, 607, 608, 609, 610, 611, 612, 613, 614] (by decide +kernel) (by decide +kernel)) (goodIn_sub (fun _ h => List.mem_append_left _ (List.mem_append_left _ (List.mem_append_right _ h))) (by decide +kernel))
set_option maxRecDepth 20000 in
theorem gL_law_X6_cell : GoodIn wsL_law (wsV RL 110 RX6 yX6_cell wsX6_cell) := goodIn_app (goodIn_of _ (by decide +kernel)) ggL_law_X6_cell
set_option maxRecDepth 20000 in
theorem ggL_law_X6_told : GoodIn wsL_law wsX6_told := goodIn_ca (goodIn_r _ [504, 30, 42, 282, 283, 284, 2, 285, 133, 134, 259, 471, 472, 473, 474, 298, 299, 300, 29, 301, 65, 290, 291, 292, 293, 67, 302, 303, 304, 41, 305, 87, 286, 287, 288, 289, 66, 505, 506, 507, 508, 593, 594, 595, 596, 597, 598, 599, 615, 616, 617, 623, 624, 625, 626] (by decide +kernel) (by decide +kernel)) (goodIn_sub (fun _ h => List.mem_append_left _ (List.mem_append_left _ (List.mem_append_right _ h))) (by decide +kernel))
set_option maxRecDepth 20000 in
theorem gL_law_X6_told : GoodIn wsL_law (wsV RL 112 RX6 yX6_told wsX6_told) := goodIn_app (goodIn_of _ (by decide +kernel)) ggL_law_X6_told
set_option maxRecDepth 20000 in
theorem ggL_law_X6_lines : GoodIn wsL_law wsX6_lines := goodIn_ca (goodIn_r _ [512, 42, 333, 334, 335, 2, 336, 133, 134, 38, 320, 513, 514, 515, 41, 516, 88, 593, 594, 595, 596, 597, 598, 599, 621, 622, 623, 624, 625, 626] (by decide +kernel) (by decide +kernel)) (goodIn_sub (fun _ h => List.mem_append_left _ (List.mem_append_left _ (List.mem_append_right _ h))) (by decide +kernel))
set_option maxRecDepth 20000 in
theorem gL_law_X6_lines : GoodIn wsL_law (wsV RL 115 RX6 yX6_lines wsX6_lines) := goodIn_app (goodIn_of _ (by decide +kernel)) ggL_law_X6_lines
set_option maxRecDepth 20000 in
theorem ggL_law_X6_about : GoodIn wsL_law wsX6_about := goodIn_ca (goodIn_r _ [520, 42, 47, 418, 521, 522, 387, 38, 321, 322, 323, 2, 324, 133, 134, 34, 310, 471, 472, 473, 474, 383, 384, 385, 386, 26, 388, 389, 390, 46, 391, 392, 393, 394, 395, 396, 397, 398, 399, 33, 400, 73, 401, 402, 403, 404, 74, 405, 406, 407, 408, 72, 409, 201, 202, 25, 203, 204, 205, 161, 162, 163, 206, 207, 208, 209, 136, 137, 210, 145, 146, 410, 411, 412, 413, 157, 158, 159, 160, 52, 414, 415, 416, 417, 30, 419, 420, 421, 422, 423, 53, 243, 244, 245, 246, 54, 424, 425, 426, 427, 428, 429, 430, 29, 431, 67, 65, 66, 432, 303, 304, 41, 305, 87, 433, 434, 435, 436, 437, 438, 439, 440, 441, 523, 524, 525, 37, 526, 80, 527, 338, 339, 340, 79, 341, 342, 343, 344, 593, 594, 595, 596, 597, 598, 599, 627, 628, 629, 630, 631, 618, 619, 620, 606, 607, 608, 609, 610, 611, 612, 613, 614, 615, 616, 617, 623, 624, 625, 626, 621, 622] (by decide +kernel) (by decide +kernel)) (goodIn_sub (fun _ h => List.mem_append_left _ (List.mem_append_left _ (List.mem_append_right _ h))) (by decide +kernel))
set_option maxRecDepth 20000 in
theorem gL_law_X6_about : GoodIn wsL_law (wsV RL 118 RX6 yX6_about wsX6_about) := goodIn_app (goodIn_of _ (by decide +kernel)) ggL_law_X6_about
set_option maxRecDepth 20000 in
theorem ggL_law_X6_finest : GoodIn wsL_law wsX6_finest := goodIn_r _ [531, 34, 310, 42, 383, 384, 385, 2, 386, 47, 26, 387, 388, 389, 390, 46, 391, 392, 393, 394, 395, 396, 397, 398, 399, 33, 400, 73, 401, 402, 403, 404, 74, 405, 406, 407, 408, 72, 409, 201, 202, 25, 203, 204, 205, 161, 162, 163, 206, 207, 208, 209, 136, 137, 210, 145, 146, 410, 411, 412, 413, 157, 158, 159, 160, 52, 414, 415, 416, 417, 418, 30, 419, 420, 421, 422, 423, 53, 243, 244, 245, 246, 54, 424, 425, 426, 427, 428, 429, 430, 29, 431, 67, 65, 66, 432, 303, 304, 41, 305, 87, 433, 434, 435, 436, 437, 438, 439, 440, 441, 593, 594, 595, 596, 597, 598, 599, 618, 619, 620, 627, 628, 629, 630, 631, 606, 607, 608, 609, 610, 611, 612, 613, 614, 615, 616, 617, 623, 624, 625, 626] (by decide +kernel) (by decide +kernel)
set_option maxRecDepth 20000 in
theorem gL_law_X6_finest : GoodIn wsL_law (wsV RL 124 RX6 yX6_finest wsX6_finest) := goodIn_app (goodIn_of _ (by decide +kernel)) ggL_law_X6_finest
set_option maxRecDepth 20000 in
theorem ggL_law_X6_digest : GoodIn wsL_law wsX6_digest := goodIn_ca (goodIn_r _ [535, 536, 537, 38, 320, 538, 467, 468, 2, 469, 42, 361, 26, 470, 30, 34, 310, 471, 472, 473, 474, 133, 134, 379, 380, 381, 41, 382, 85, 475, 476, 477, 25, 478, 52, 479, 480, 481, 29, 482, 67, 483, 287, 288, 289, 66, 290, 291, 292, 293, 484, 485, 486, 487, 128, 488, 489, 490, 491, 432, 303, 304, 305, 87, 492, 493, 494, 495, 88, 539, 540, 541, 542, 543, 497, 498, 499, 129, 130, 131, 132, 135, 136, 137, 144, 145, 146, 419, 158, 159, 160, 161, 162, 163, 420, 421, 422, 423, 53, 243, 244, 245, 246, 54, 211, 212, 213, 214, 57, 215, 216, 217, 218, 56, 500, 371, 372, 373, 58, 544, 545, 546, 547, 259, 548, 502, 503, 504, 282, 283, 284, 285, 298, 299, 300, 301, 65, 302, 286, 505, 506, 507, 508, 549, 550, 551, 552, 553, 518, 519, 520, 47, 418, 521, 522, 387, 321, 322, 323, 324, 383, 384, 385, 386, 388, 389, 390, 46, 391, 392, 393, 394, 395, 396, 397, 398, 399, 33, 400, 73, 401, 402, 403, 404, 74, 405, 406, 407, 408, 72, 409, 201, 202, 203, 204, 205, 206, 207, 208, 209, 210, 410, 411, 412, 413, 157, 414, 415, 416, 417, 424, 425, 426, 427, 428, 429, 430, 431, 433, 434, 435, 436, 437, 438, 439, 440, 441, 523, 524, 525, 37, 526, 80, 527, 338, 339, 340, 79, 341, 342, 343, 344, 554, 510, 511, 512, 333, 334, 335, 336, 513, 514, 515, 516, 593, 594, 595, 596, 597, 598, 599, 621, 622, 623, 624, 625, 626, 606, 607, 608, 609, 610, 611, 612, 613, 614, 618, 619, 620, 615, 616, 617, 627, 628, 629, 630, 631] (by decide +kernel) (by decide +kernel)) (goodIn_sub (fun _ h => List.mem_append_left _ (List.mem_append_left _ (List.mem_append_right _ h))) (by decide +kernel))
set_option maxRecDepth 20000 in
theorem gL_law_X6_digest : GoodIn wsL_law (wsV RL 127 RX6 yX6_digest wsX6_digest) := goodIn_app (goodIn_of _ (by decide +kernel)) ggL_law_X6_digest
set_option maxRecDepth 20000 in
theorem ggL_law_X6_foresee : GoodIn wsL_law wsX6_foresee := goodIn_ca (goodIn_ca (goodIn_r _ [558, 133, 134, 43, 42, 353, 354, 355, 2, 356, 142, 143, 559, 560, 561, 41, 562, 85, 86, 87, 88, 357, 358, 359, 360, 128, 361, 362, 363, 364, 365, 30, 259, 26, 286, 287, 288, 29, 289, 66, 290, 291, 292, 293, 67, 298, 299, 300, 301, 65, 366, 367, 368, 25, 369, 370, 371, 372, 373, 58, 215, 216, 217, 218, 56, 161, 162, 163, 374, 212, 213, 214, 57, 302, 303, 304, 305, 265, 266, 267, 268, 269, 14, 5, 15, 270, 11, 12, 375, 376, 377, 378, 38, 320, 379, 380, 381, 382, 337, 338, 339, 37, 340, 79, 341, 342, 343, 344, 80, 383, 384, 385, 386, 47, 34, 387, 388, 389, 390, 46, 391, 392, 393, 394, 395, 396, 397, 398, 399, 33, 400, 73, 401, 402, 403, 404, 74, 405, 406, 407, 408, 72, 409, 201, 202, 203, 204, 205, 206, 207, 208, 209, 136, 137, 210, 145, 146, 410, 411, 412, 413, 157, 158, 159, 160, 52, 414, 415, 416, 417, 418, 419, 420, 421, 422, 423, 53, 243, 244, 245, 246, 54, 424, 425, 426, 427, 428, 429, 430, 431, 432, 433, 434, 435, 436, 437, 438, 439, 440, 441, 442, 443, 444, 445, 484, 485, 486, 487, 488, 489, 490, 491, 483, 492, 493, 494, 495, 593, 594, 595, 596, 597, 598, 599, 623, 624, 625, 626, 615, 616, 617, 606, 607, 608, 609, 610, 611, 612, 613, 614, 621, 622, 627, 628, 629, 630, 631, 618, 619, 620] (by decide +kernel) (by decide +kernel)) (goodIn_sub (fun _ h => List.mem_append_left _ (List.mem_append_left _ (List.mem_append_right _ h))) (by decide +kernel))) (goodIn_sub (fun _ h => List.mem_append_left _ (List.mem_append_right _ h)) (by decide +kernel))
set_option maxRecDepth 20000 in
theorem gL_law_X6_foresee : GoodIn wsL_law (wsV RL 131 RX6 yX6_foresee wsX6_foresee) := goodIn_app (goodIn_of _ (by decide +kernel)) ggL_law_X6_foresee
set_option maxRecDepth 20000 in
theorem ggL_law_L_below : GoodIn wsL_law wsL_below := goodIn_r _ [115, 116] (by decide +kernel) (by decide +kernel)
set_option maxRecDepth 20000 in
theorem gL_law_L_below : GoodIn wsL_law (va_wsS RL 9 yL_below wsL_below) := goodIn_app (goodIn_of _ (by decide +kernel)) ggL_law_L_below
set_option maxRecDepth 20000 in
theorem ggL_law_X6_advise : GoodIn wsL_law wsX6_advise := goodIn_ca (goodIn_ca (goodIn_r _ [566, 42, 26, 321, 322, 323, 2, 324, 133, 134, 34, 310, 138, 139, 140, 141, 142, 143, 383, 384, 385, 386, 47, 387, 388, 389, 390, 46, 391, 392, 393, 394, 395, 396, 397, 398, 399, 33, 400, 73, 401, 402, 403, 404, 74, 405, 406, 407, 408, 72, 409, 201, 202, 25, 203, 204, 205, 161, 162, 163, 206, 207, 208, 209, 136, 137, 210, 145, 146, 410, 411, 412, 413, 157, 158, 159, 160, 52, 414, 415, 416, 417, 418, 30, 419, 420, 421, 422, 423, 53, 243, 244, 245, 246, 54, 424, 425, 426, 427, 428, 429, 430, 29, 431, 67, 65, 66, 432, 303, 304, 41, 305, 87, 433, 434, 435, 436, 437, 438, 439, 440, 441, 153, 154, 155, 156, 567, 568, 569, 570, 168, 169, 170, 171, 172, 173, 174, 175, 571, 572, 573, 574, 593, 594, 595, 596, 597, 598, 599, 618, 619, 620, 627, 628, 629, 630, 631, 606, 607, 608, 609, 610, 611, 612, 613, 614, 615, 616, 617, 623, 624, 625, 626] (by decide +kernel) (by decide +kernel)) (goodIn_sub (fun _ h => List.mem_append_left _ (List.mem_append_left _ (List.mem_append_right _ h))) (by decide +kernel))) (goodIn_sub (fun _ h => List.mem_append_left _ (List.mem_append_right _ h)) (by decide +kernel))
set_option maxRecDepth 20000 in
theorem gL_law_X6_advise : GoodIn wsL_law (wsV RL 134 RX6 yX6_advise wsX6_advise) := goodIn_app (goodIn_of _ (by decide +kernel)) ggL_law_X6_advise
set_option maxRecDepth 20000 in
theorem ggL_law_X6_pass : GoodIn wsL_law wsX6_pass := goodIn_ca (goodIn_r _ [352, 42, 353, 354, 355, 2, 356, 142, 143, 357, 358, 359, 360, 128, 361, 362, 363, 364, 365, 30, 259, 26, 286, 287, 288, 29, 289, 66, 290, 291, 292, 293, 67, 298, 299, 300, 301, 65, 366, 367, 368, 25, 369, 370, 371, 372, 373, 58, 215, 216, 217, 218, 56, 161, 162, 163, 374, 212, 213, 214, 57, 302, 303, 304, 41, 305, 87, 265, 266, 267, 268, 269, 14, 5, 15, 270, 11, 12, 375, 376, 377, 378, 38, 320, 379, 380, 381, 382, 85, 337, 338, 339, 37, 340, 79, 341, 342, 343, 344, 80, 383, 384, 385, 386, 47, 34, 387, 388, 389, 390, 46, 391, 392, 393, 394, 395, 396, 397, 398, 399, 33, 400, 73, 401, 402, 403, 404, 74, 405, 406, 407, 408, 72, 409, 201, 202, 203, 204, 205, 206, 207, 208, 209, 136, 137, 210, 145, 146, 410, 411, 412, 413, 157, 158, 159, 160, 52, 414, 415, 416, 417, 418, 419, 420, 421, 422, 423, 53, 243, 244, 245, 246, 54, 424, 425, 426, 427, 428, 429, 430, 431, 432, 433, 434, 435, 436, 437, 438, 439, 440, 441, 442, 443, 444, 445, 88, 593, 594, 595, 596, 597, 598, 599, 623, 624, 625, 626, 615, 616, 617, 606, 607, 608, 609, 610, 611, 612, 613, 614, 621, 622, 627, 628, 629, 630, 631, 618, 619, 620] (by decide +kernel) (by decide +kernel)) (goodIn_sub (fun _ h => List.mem_append_left _ (List.mem_append_right _ h)) (by decide +kernel))
set_option maxRecDepth 20000 in
theorem gL_law_X6_pass : GoodIn wsL_law (wsV RL 91 RX6 yX6_pass wsX6_pass) := goodIn_app (goodIn_of _ (by decide +kernel)) ggL_law_X6_pass
set_option maxRecDepth 20000 in
theorem ggL_law_X7_pass : GoodIn wsL_law wsX7_pass := goodIn_r _ [449, 106, 108, 107, 450, 103, 451, 220, 221, 98, 222, 223, 9, 104, 452, 453, 454, 455, 456, 225, 226, 457, 458, 459, 460, 461, 462, 463, 464, 105, 8, 465, 276, 277, 600, 601, 602, 603, 604, 605] (by decide +kernel) (by decide +kernel)
set_option maxRecDepth 20000 in
theorem gL_law_X7_pass : GoodIn wsL_law (wsV RL 94 RX7 yX7_pass wsX7_pass) := goodIn_app (goodIn_of _ (by decide +kernel)) ggL_law_X7_pass
set_option maxRecDepth 20000 in
theorem ggL_law_X7_isSame : GoodIn wsL_law wsX7_isSame := goodIn_ca (goodIn_r _ [578, 104, 8, 106, 107, 108, 451, 220, 221, 98, 222, 223, 9, 456, 225, 226, 452, 453, 454, 455, 579, 497, 498, 2, 499, 26, 129, 130, 131, 132, 133, 134, 135, 136, 25, 137, 471, 472, 473, 474, 144, 145, 146, 419, 158, 159, 160, 52, 161, 162, 163, 420, 421, 422, 423, 53, 243, 244, 245, 246, 54, 211, 212, 213, 214, 57, 215, 216, 217, 218, 56, 500, 371, 372, 373, 58, 580, 502, 503, 504, 30, 42, 282, 283, 284, 285, 259, 298, 299, 300, 29, 301, 65, 290, 291, 292, 293, 67, 302, 303, 304, 41, 305, 87, 286, 287, 288, 289, 66, 505, 506, 507, 508, 461, 462, 463, 464, 105, 465, 276, 277, 457, 458, 459, 460, 581, 518, 519, 520, 47, 418, 521, 522, 387, 38, 321, 322, 323, 324, 34, 310, 383, 384, 385, 386, 388, 389, 390, 46, 391, 392, 393, 394, 395, 396, 397, 398, 399, 33, 400, 73, 401, 402, 403, 404, 74, 405, 406, 407, 408, 72, 409, 201, 202, 203, 204, 205, 206, 207, 208, 209, 210, 410, 411, 412, 413, 157, 414, 415, 416, 417, 424, 425, 426, 427, 428, 429, 430, 431, 432, 433, 434, 435, 436, 437, 438, 439, 440, 441, 523, 524, 525, 37, 526, 80, 527, 338, 339, 340, 79, 341, 342, 343, 344, 582, 510, 511, 512, 333, 334, 335, 336, 320, 513, 514, 515, 516, 88, 583, 584, 585, 586, 450, 103, 587, 467, 468, 469, 361, 470, 379, 380, 381, 382, 85, 475, 476, 477, 478, 479, 480, 481, 482, 483, 484, 485, 486, 487, 128, 488, 489, 490, 491, 492, 493, 494, 495, 588, 529, 530, 531, 589, 590, 591, 592, 600, 601, 602, 603, 604, 605, 593, 594, 595, 596, 597, 598, 599, 606, 607, 608, 609, 610, 611, 612, 613, 614, 615, 616, 617, 623, 624, 625, 626, 627, 628, 629, 630, 631, 618, 619, 620, 621, 622] (by decide +kernel) (by decide +kernel)) (goodIn_sub (fun _ h => List.mem_append_left _ (List.mem_append_left _ (List.mem_append_right _ h))) (by decide +kernel))
set_option maxRecDepth 20000 in
theorem gL_law_X7_isSame : GoodIn wsL_law (wsV RL 140 RX7 yX7_isSame wsX7_isSame) := goodIn_app (goodIn_of _ (by decide +kernel)) ggL_law_X7_isSame
theorem dL_law_0 : decode cL_law 0 = .ok (.new 26, 3) := by decide +kernel
theorem dL_law_3 : decode cL_law 3 = .ok (.dup, 1) := by decide +kernel
theorem dL_law_4 : decode cL_law 4 = .ok (.invokespecial 97, 3) := by decide +kernel
theorem dL_law_7 : decode cL_law 7 = .ok (.astore_n 1, 1) := by decide +kernel
theorem dL_law_8 : decode cL_law 8 = .ok (.aload_n 1, 1) := by decide +kernel
theorem dL_law_9 : decode cL_law 9 = .ok (.aload_n 0, 1) := by decide +kernel
theorem dL_law_10 : decode cL_law 10 = .ok (.invokestatic 98, 3) := by decide +kernel
theorem dL_law_13 : decode cL_law 13 = .ok (.astore_n 2, 1) := by decide +kernel
theorem dL_law_14 : decode cL_law 14 = .ok (.aload_n 2, 1) := by decide +kernel
theorem dL_law_15 : decode cL_law 15 = .ok (.ifnonnull 5, 3) := by decide +kernel
theorem dL_law_18 : decode cL_law 18 = .ok (.iconst 0, 1) := by decide +kernel
theorem dL_law_19 : decode cL_law 19 = .ok (.ireturn, 1) := by decide +kernel
theorem dL_law_20 : decode cL_law 20 = .ok (.iconst 0, 1) := by decide +kernel
theorem dL_law_21 : decode cL_law 21 = .ok (.istore_n 3, 1) := by decide +kernel
theorem dL_law_22 : decode cL_law 22 = .ok (.iload_n 3, 1) := by decide +kernel
theorem dL_law_23 : decode cL_law 23 = .ok (.bipush 40, 2) := by decide +kernel
theorem dL_law_25 : decode cL_law 25 = .ok (.if_icmp .ge 1374, 3) := by decide +kernel
theorem dL_law_28 : decode cL_law 28 = .ok (.aload_n 0, 1) := by decide +kernel
theorem dL_law_29 : decode cL_law 29 = .ok (.iload_n 3, 1) := by decide +kernel
theorem dL_law_30 : decode cL_law 30 = .ok (.bipush 16, 2) := by decide +kernel
theorem dL_law_32 : decode cL_law 32 = .ok (.irem, 1) := by decide +kernel
theorem dL_law_33 : decode cL_law 33 = .ok (.invokestatic 82, 3) := by decide +kernel
theorem dL_law_36 : decode cL_law 36 = .ok (.iload_n 3, 1) := by decide +kernel
theorem dL_law_37 : decode cL_law 37 = .ok (.bipush 16, 2) := by decide +kernel
theorem dL_law_39 : decode cL_law 39 = .ok (.idiv, 1) := by decide +kernel
theorem dL_law_40 : decode cL_law 40 = .ok (.iconst 5, 1) := by decide +kernel
theorem dL_law_41 : decode cL_law 41 = .ok (.imul, 1) := by decide +kernel
theorem dL_law_42 : decode cL_law 42 = .ok (.ishr, 1) := by decide +kernel
theorem dL_law_43 : decode cL_law 43 = .ok (.bipush 59, 2) := by decide +kernel
theorem dL_law_45 : decode cL_law 45 = .ok (.iload_n 3, 1) := by decide +kernel
theorem dL_law_46 : decode cL_law 46 = .ok (.imul, 1) := by decide +kernel
theorem dL_law_47 : decode cL_law 47 = .ok (.iadd, 1) := by decide +kernel
theorem dL_law_48 : decode cL_law 48 = .ok (.istore 4, 2) := by decide +kernel
theorem dL_law_50 : decode cL_law 50 = .ok (.aload_n 1, 1) := by decide +kernel
theorem dL_law_51 : decode cL_law 51 = .ok (.iconst 2, 1) := by decide +kernel
theorem dL_law_52 : decode cL_law 52 = .ok (.invokevirtual 102, 3) := by decide +kernel
theorem dL_law_55 : decode cL_law 55 = .ok (.istore 5, 2) := by decide +kernel
theorem dL_law_57 : decode cL_law 57 = .ok (.aload_n 1, 1) := by decide +kernel
theorem dL_law_58 : decode cL_law 58 = .ok (.aload_n 2, 1) := by decide +kernel
theorem dL_law_59 : decode cL_law 59 = .ok (.iload 4, 2) := by decide +kernel
theorem dL_law_61 : decode cL_law 61 = .ok (.iconst 2, 1) := by decide +kernel
theorem dL_law_62 : decode cL_law 62 = .ok (.idiv, 1) := by decide +kernel
theorem dL_law_63 : decode cL_law 63 = .ok (.invokestatic 87, 3) := by decide +kernel
theorem dL_law_66 : decode cL_law 66 = .ok (.ifCond .ne 5, 3) := by decide +kernel
theorem dL_law_69 : decode cL_law 69 = .ok (.iconst 0, 1) := by decide +kernel
theorem dL_law_70 : decode cL_law 70 = .ok (.ireturn, 1) := by decide +kernel
theorem dL_law_71 : decode cL_law 71 = .ok (.aload_n 1, 1) := by decide +kernel
theorem dL_law_72 : decode cL_law 72 = .ok (.iconst 2, 1) := by decide +kernel
theorem dL_law_73 : decode cL_law 73 = .ok (.invokevirtual 102, 3) := by decide +kernel
theorem dL_law_76 : decode cL_law 76 = .ok (.ifCond .lt 19, 3) := by decide +kernel
theorem dL_law_79 : decode cL_law 79 = .ok (.aload_n 1, 1) := by decide +kernel
theorem dL_law_80 : decode cL_law 80 = .ok (.iconst 2, 1) := by decide +kernel
theorem dL_law_81 : decode cL_law 81 = .ok (.invokevirtual 102, 3) := by decide +kernel
theorem dL_law_84 : decode cL_law 84 = .ok (.iload 5, 2) := by decide +kernel
theorem dL_law_86 : decode cL_law 86 = .ok (.isub, 1) := by decide +kernel
theorem dL_law_87 : decode cL_law 87 = .ok (.invokestatic 105, 3) := by decide +kernel
theorem dL_law_90 : decode cL_law 90 = .ok (.bipush 21, 2) := by decide +kernel
theorem dL_law_92 : decode cL_law 92 = .ok (.if_icmp .le 5, 3) := by decide +kernel
theorem dL_law_95 : decode cL_law 95 = .ok (.iconst 0, 1) := by decide +kernel
theorem dL_law_96 : decode cL_law 96 = .ok (.ireturn, 1) := by decide +kernel
theorem dL_law_97 : decode cL_law 97 = .ok (.aload_n 2, 1) := by decide +kernel
theorem dL_law_98 : decode cL_law 98 = .ok (.getfield 47, 3) := by decide +kernel
theorem dL_law_101 : decode cL_law 101 = .ok (.arraylength, 1) := by decide +kernel
theorem dL_law_102 : decode cL_law 102 = .ok (.istore 6, 2) := by decide +kernel
theorem dL_law_104 : decode cL_law 104 = .ok (.aload_n 1, 1) := by decide +kernel
theorem dL_law_105 : decode cL_law 105 = .ok (.bipush 8, 2) := by decide +kernel
theorem dL_law_107 : decode cL_law 107 = .ok (.invokevirtual 102, 3) := by decide +kernel
theorem dL_law_110 : decode cL_law 110 = .ok (.istore 7, 2) := by decide +kernel
theorem dL_law_112 : decode cL_law 112 = .ok (.aload_n 1, 1) := by decide +kernel
theorem dL_law_113 : decode cL_law 113 = .ok (.bipush 9, 2) := by decide +kernel
theorem dL_law_115 : decode cL_law 115 = .ok (.invokevirtual 102, 3) := by decide +kernel
theorem dL_law_118 : decode cL_law 118 = .ok (.istore 8, 2) := by decide +kernel
theorem dL_law_120 : decode cL_law 120 = .ok (.iconst 0, 1) := by decide +kernel
theorem dL_law_121 : decode cL_law 121 = .ok (.istore 9, 2) := by decide +kernel
theorem dL_law_123 : decode cL_law 123 = .ok (.iconst 0, 1) := by decide +kernel
theorem dL_law_124 : decode cL_law 124 = .ok (.istore 10, 2) := by decide +kernel
theorem dL_law_126 : decode cL_law 126 = .ok (.iconst 0, 1) := by decide +kernel
theorem dL_law_127 : decode cL_law 127 = .ok (.istore 11, 2) := by decide +kernel
theorem dL_law_129 : decode cL_law 129 = .ok (.iconst 0, 1) := by decide +kernel
theorem dL_law_130 : decode cL_law 130 = .ok (.istore 12, 2) := by decide +kernel
theorem dL_law_132 : decode cL_law 132 = .ok (.iload 12, 2) := by decide +kernel
theorem dL_law_134 : decode cL_law 134 = .ok (.bipush 7, 2) := by decide +kernel
theorem dL_law_136 : decode cL_law 136 = .ok (.if_icmp .ge 321, 3) := by decide +kernel
theorem dL_law_139 : decode cL_law 139 = .ok (.iconst 0, 1) := by decide +kernel
theorem dL_law_140 : decode cL_law 140 = .ok (.istore 13, 2) := by decide +kernel
theorem dL_law_142 : decode cL_law 142 = .ok (.iload 13, 2) := by decide +kernel
theorem dL_law_144 : decode cL_law 144 = .ok (.bipush 10, 2) := by decide +kernel
theorem dL_law_146 : decode cL_law 146 = .ok (.if_icmp .ge 305, 3) := by decide +kernel
theorem dL_law_149 : decode cL_law 149 = .ok (.aload_n 1, 1) := by decide +kernel
theorem dL_law_150 : decode cL_law 150 = .ok (.iload 13, 2) := by decide +kernel
theorem dL_law_152 : decode cL_law 152 = .ok (.iload 12, 2) := by decide +kernel
theorem dL_law_154 : decode cL_law 154 = .ok (.iconst 0, 1) := by decide +kernel
theorem dL_law_155 : decode cL_law 155 = .ok (.invokevirtual 110, 3) := by decide +kernel
theorem dL_law_158 : decode cL_law 158 = .ok (.istore 14, 2) := by decide +kernel
theorem dL_law_160 : decode cL_law 160 = .ok (.iload 9, 2) := by decide +kernel
theorem dL_law_162 : decode cL_law 162 = .ok (.iload 14, 2) := by decide +kernel
theorem dL_law_164 : decode cL_law 164 = .ok (.iconst 2, 1) := by decide +kernel
theorem dL_law_165 : decode cL_law 165 = .ok (.if_icmp .ne 7, 3) := by decide +kernel
theorem dL_law_168 : decode cL_law 168 = .ok (.iconst 1, 1) := by decide +kernel
theorem dL_law_169 : decode cL_law 169 = .ok (.goto 4, 3) := by decide +kernel
theorem dL_law_172 : decode cL_law 172 = .ok (.iconst 0, 1) := by decide +kernel
theorem dL_law_173 : decode cL_law 173 = .ok (.iadd, 1) := by decide +kernel
theorem dL_law_174 : decode cL_law 174 = .ok (.istore 9, 2) := by decide +kernel
theorem dL_law_176 : decode cL_law 176 = .ok (.iload 10, 2) := by decide +kernel
theorem dL_law_178 : decode cL_law 178 = .ok (.iload 14, 2) := by decide +kernel
theorem dL_law_180 : decode cL_law 180 = .ok (.iconst 1, 1) := by decide +kernel
theorem dL_law_181 : decode cL_law 181 = .ok (.if_icmp .ne 7, 3) := by decide +kernel
theorem dL_law_184 : decode cL_law 184 = .ok (.iconst 1, 1) := by decide +kernel
theorem dL_law_185 : decode cL_law 185 = .ok (.goto 4, 3) := by decide +kernel
theorem dL_law_188 : decode cL_law 188 = .ok (.iconst 0, 1) := by decide +kernel
theorem dL_law_189 : decode cL_law 189 = .ok (.iadd, 1) := by decide +kernel
theorem dL_law_190 : decode cL_law 190 = .ok (.istore 10, 2) := by decide +kernel
theorem dL_law_192 : decode cL_law 192 = .ok (.iload 14, 2) := by decide +kernel
theorem dL_law_194 : decode cL_law 194 = .ok (.ifCond .lt 120, 3) := by decide +kernel
theorem dL_law_197 : decode cL_law 197 = .ok (.iload 14, 2) := by decide +kernel
theorem dL_law_199 : decode cL_law 199 = .ok (.iconst 3, 1) := by decide +kernel
theorem dL_law_200 : decode cL_law 200 = .ok (.if_icmp .gt 114, 3) := by decide +kernel
theorem dL_law_203 : decode cL_law 203 = .ok (.iload 14, 2) := by decide +kernel
theorem dL_law_205 : decode cL_law 205 = .ok (.iconst 1, 1) := by decide +kernel
theorem dL_law_206 : decode cL_law 206 = .ok (.if_icmp .ne 7, 3) := by decide +kernel
theorem dL_law_209 : decode cL_law 209 = .ok (.iconst 1, 1) := by decide +kernel
theorem dL_law_210 : decode cL_law 210 = .ok (.goto 4, 3) := by decide +kernel
theorem dL_law_213 : decode cL_law 213 = .ok (.iconst 0, 1) := by decide +kernel
theorem dL_law_214 : decode cL_law 214 = .ok (.aload_n 1, 1) := by decide +kernel
theorem dL_law_215 : decode cL_law 215 = .ok (.iload 13, 2) := by decide +kernel
theorem dL_law_217 : decode cL_law 217 = .ok (.iload 12, 2) := by decide +kernel
theorem dL_law_219 : decode cL_law 219 = .ok (.iconst 1, 1) := by decide +kernel
theorem dL_law_220 : decode cL_law 220 = .ok (.invokevirtual 110, 3) := by decide +kernel
theorem dL_law_223 : decode cL_law 223 = .ok (.ifCond .lt 7, 3) := by decide +kernel
theorem dL_law_226 : decode cL_law 226 = .ok (.iconst 1, 1) := by decide +kernel
theorem dL_law_227 : decode cL_law 227 = .ok (.goto 4, 3) := by decide +kernel
theorem dL_law_230 : decode cL_law 230 = .ok (.iconst 0, 1) := by decide +kernel
theorem dL_law_231 : decode cL_law 231 = .ok (.if_icmp .ne 83, 3) := by decide +kernel
theorem dL_law_234 : decode cL_law 234 = .ok (.iload 14, 2) := by decide +kernel
theorem dL_law_236 : decode cL_law 236 = .ok (.iconst 1, 1) := by decide +kernel
theorem dL_law_237 : decode cL_law 237 = .ok (.if_icmp .ne 7, 3) := by decide +kernel
theorem dL_law_240 : decode cL_law 240 = .ok (.iconst 1, 1) := by decide +kernel
theorem dL_law_241 : decode cL_law 241 = .ok (.goto 4, 3) := by decide +kernel
theorem dL_law_244 : decode cL_law 244 = .ok (.iconst 0, 1) := by decide +kernel
theorem dL_law_245 : decode cL_law 245 = .ok (.aload_n 1, 1) := by decide +kernel
theorem dL_law_246 : decode cL_law 246 = .ok (.iload 13, 2) := by decide +kernel
theorem dL_law_248 : decode cL_law 248 = .ok (.iload 12, 2) := by decide +kernel
theorem dL_law_250 : decode cL_law 250 = .ok (.iconst 2, 1) := by decide +kernel
theorem dL_law_251 : decode cL_law 251 = .ok (.invokevirtual 110, 3) := by decide +kernel
theorem dL_law_254 : decode cL_law 254 = .ok (.ifCond .le 7, 3) := by decide +kernel
theorem dL_law_257 : decode cL_law 257 = .ok (.iconst 1, 1) := by decide +kernel
theorem dL_law_258 : decode cL_law 258 = .ok (.goto 4, 3) := by decide +kernel
theorem dL_law_261 : decode cL_law 261 = .ok (.iconst 0, 1) := by decide +kernel
theorem dL_law_262 : decode cL_law 262 = .ok (.if_icmp .ne 52, 3) := by decide +kernel
theorem dL_law_265 : decode cL_law 265 = .ok (.iload 14, 2) := by decide +kernel
theorem dL_law_267 : decode cL_law 267 = .ok (.iconst 2, 1) := by decide +kernel
theorem dL_law_268 : decode cL_law 268 = .ok (.if_icmp .ne 7, 3) := by decide +kernel
theorem dL_law_271 : decode cL_law 271 = .ok (.iconst 1, 1) := by decide +kernel
theorem dL_law_272 : decode cL_law 272 = .ok (.goto 4, 3) := by decide +kernel
theorem dL_law_275 : decode cL_law 275 = .ok (.iconst 0, 1) := by decide +kernel
theorem dL_law_276 : decode cL_law 276 = .ok (.aload_n 1, 1) := by decide +kernel
theorem dL_law_277 : decode cL_law 277 = .ok (.iload 13, 2) := by decide +kernel
theorem dL_law_279 : decode cL_law 279 = .ok (.iload 12, 2) := by decide +kernel
theorem dL_law_281 : decode cL_law 281 = .ok (.iconst 3, 1) := by decide +kernel
theorem dL_law_282 : decode cL_law 282 = .ok (.invokevirtual 110, 3) := by decide +kernel
theorem dL_law_285 : decode cL_law 285 = .ok (.ifCond .le 7, 3) := by decide +kernel
theorem dL_law_288 : decode cL_law 288 = .ok (.iconst 1, 1) := by decide +kernel
theorem dL_law_289 : decode cL_law 289 = .ok (.goto 4, 3) := by decide +kernel
theorem dL_law_292 : decode cL_law 292 = .ok (.iconst 0, 1) := by decide +kernel
theorem dL_law_293 : decode cL_law 293 = .ok (.if_icmp .ne 21, 3) := by decide +kernel
theorem dL_law_296 : decode cL_law 296 = .ok (.iload 14, 2) := by decide +kernel
theorem dL_law_298 : decode cL_law 298 = .ok (.iconst 2, 1) := by decide +kernel
theorem dL_law_299 : decode cL_law 299 = .ok (.if_icmp .eq 17, 3) := by decide +kernel
theorem dL_law_302 : decode cL_law 302 = .ok (.aload_n 1, 1) := by decide +kernel
theorem dL_law_303 : decode cL_law 303 = .ok (.iload 13, 2) := by decide +kernel
theorem dL_law_305 : decode cL_law 305 = .ok (.iload 12, 2) := by decide +kernel
theorem dL_law_307 : decode cL_law 307 = .ok (.iconst 4, 1) := by decide +kernel
theorem dL_law_308 : decode cL_law 308 = .ok (.invokevirtual 110, 3) := by decide +kernel
theorem dL_law_311 : decode cL_law 311 = .ok (.ifCond .eq 5, 3) := by decide +kernel
theorem dL_law_314 : decode cL_law 314 = .ok (.iconst 0, 1) := by decide +kernel
theorem dL_law_315 : decode cL_law 315 = .ok (.ireturn, 1) := by decide +kernel
theorem dL_law_316 : decode cL_law 316 = .ok (.iload 14, 2) := by decide +kernel
theorem dL_law_318 : decode cL_law 318 = .ok (.iconst 2, 1) := by decide +kernel
theorem dL_law_319 : decode cL_law 319 = .ok (.if_icmp .ne 73, 3) := by decide +kernel
theorem dL_law_322 : decode cL_law 322 = .ok (.iload 13, 2) := by decide +kernel
theorem dL_law_324 : decode cL_law 324 = .ok (.bipush 9, 2) := by decide +kernel
theorem dL_law_326 : decode cL_law 326 = .ok (.if_icmp .ge 66, 3) := by decide +kernel
theorem dL_law_329 : decode cL_law 329 = .ok (.aload_n 1, 1) := by decide +kernel
theorem dL_law_330 : decode cL_law 330 = .ok (.iload 13, 2) := by decide +kernel
theorem dL_law_332 : decode cL_law 332 = .ok (.iconst 1, 1) := by decide +kernel
theorem dL_law_333 : decode cL_law 333 = .ok (.iadd, 1) := by decide +kernel
theorem dL_law_334 : decode cL_law 334 = .ok (.iload 12, 2) := by decide +kernel
theorem dL_law_336 : decode cL_law 336 = .ok (.iconst 0, 1) := by decide +kernel
theorem dL_law_337 : decode cL_law 337 = .ok (.invokevirtual 110, 3) := by decide +kernel
theorem dL_law_340 : decode cL_law 340 = .ok (.iconst 2, 1) := by decide +kernel
theorem dL_law_341 : decode cL_law 341 = .ok (.if_icmp .ne 51, 3) := by decide +kernel
theorem dL_law_344 : decode cL_law 344 = .ok (.aload_n 1, 1) := by decide +kernel
theorem dL_law_345 : decode cL_law 345 = .ok (.iload 13, 2) := by decide +kernel
theorem dL_law_347 : decode cL_law 347 = .ok (.iconst 1, 1) := by decide +kernel
theorem dL_law_348 : decode cL_law 348 = .ok (.iadd, 1) := by decide +kernel
theorem dL_law_349 : decode cL_law 349 = .ok (.iload 12, 2) := by decide +kernel
theorem dL_law_351 : decode cL_law 351 = .ok (.iconst 3, 1) := by decide +kernel
theorem dL_law_352 : decode cL_law 352 = .ok (.invokevirtual 110, 3) := by decide +kernel
theorem dL_law_355 : decode cL_law 355 = .ok (.aload_n 1, 1) := by decide +kernel
theorem dL_law_356 : decode cL_law 356 = .ok (.iload 13, 2) := by decide +kernel
theorem dL_law_358 : decode cL_law 358 = .ok (.iload 12, 2) := by decide +kernel
theorem dL_law_360 : decode cL_law 360 = .ok (.iconst 3, 1) := by decide +kernel
theorem dL_law_361 : decode cL_law 361 = .ok (.invokevirtual 110, 3) := by decide +kernel
theorem dL_law_364 : decode cL_law 364 = .ok (.if_icmp .ne 26, 3) := by decide +kernel
theorem dL_law_367 : decode cL_law 367 = .ok (.aload_n 1, 1) := by decide +kernel
theorem dL_law_368 : decode cL_law 368 = .ok (.iload 13, 2) := by decide +kernel
theorem dL_law_370 : decode cL_law 370 = .ok (.iconst 1, 1) := by decide +kernel
theorem dL_law_371 : decode cL_law 371 = .ok (.iadd, 1) := by decide +kernel
theorem dL_law_372 : decode cL_law 372 = .ok (.iload 12, 2) := by decide +kernel
theorem dL_law_374 : decode cL_law 374 = .ok (.iconst 4, 1) := by decide +kernel
theorem dL_law_375 : decode cL_law 375 = .ok (.invokevirtual 110, 3) := by decide +kernel
theorem dL_law_378 : decode cL_law 378 = .ok (.aload_n 1, 1) := by decide +kernel
theorem dL_law_379 : decode cL_law 379 = .ok (.iload 13, 2) := by decide +kernel
theorem dL_law_381 : decode cL_law 381 = .ok (.iload 12, 2) := by decide +kernel
theorem dL_law_383 : decode cL_law 383 = .ok (.iconst 4, 1) := by decide +kernel
theorem dL_law_384 : decode cL_law 384 = .ok (.invokevirtual 110, 3) := by decide +kernel
theorem dL_law_387 : decode cL_law 387 = .ok (.if_icmp .eq 5, 3) := by decide +kernel
theorem dL_law_390 : decode cL_law 390 = .ok (.iconst 0, 1) := by decide +kernel
theorem dL_law_391 : decode cL_law 391 = .ok (.ireturn, 1) := by decide +kernel
theorem dL_law_392 : decode cL_law 392 = .ok (.iload 14, 2) := by decide +kernel
theorem dL_law_394 : decode cL_law 394 = .ok (.iconst 2, 1) := by decide +kernel
theorem dL_law_395 : decode cL_law 395 = .ok (.if_icmp .ne 50, 3) := by decide +kernel
theorem dL_law_398 : decode cL_law 398 = .ok (.iload 12, 2) := by decide +kernel
theorem dL_law_400 : decode cL_law 400 = .ok (.bipush 6, 2) := by decide +kernel
theorem dL_law_402 : decode cL_law 402 = .ok (.if_icmp .ge 43, 3) := by decide +kernel
theorem dL_law_405 : decode cL_law 405 = .ok (.aload_n 1, 1) := by decide +kernel
theorem dL_law_406 : decode cL_law 406 = .ok (.iload 13, 2) := by decide +kernel
theorem dL_law_408 : decode cL_law 408 = .ok (.iload 12, 2) := by decide +kernel
theorem dL_law_410 : decode cL_law 410 = .ok (.iconst 1, 1) := by decide +kernel
theorem dL_law_411 : decode cL_law 411 = .ok (.iadd, 1) := by decide +kernel
theorem dL_law_412 : decode cL_law 412 = .ok (.iconst 0, 1) := by decide +kernel
theorem dL_law_413 : decode cL_law 413 = .ok (.invokevirtual 110, 3) := by decide +kernel
theorem dL_law_416 : decode cL_law 416 = .ok (.iconst 2, 1) := by decide +kernel
theorem dL_law_417 : decode cL_law 417 = .ok (.if_icmp .ne 28, 3) := by decide +kernel
theorem dL_law_420 : decode cL_law 420 = .ok (.aload_n 1, 1) := by decide +kernel
theorem dL_law_421 : decode cL_law 421 = .ok (.iload 13, 2) := by decide +kernel
theorem dL_law_423 : decode cL_law 423 = .ok (.iload 12, 2) := by decide +kernel
theorem dL_law_425 : decode cL_law 425 = .ok (.iconst 1, 1) := by decide +kernel
theorem dL_law_426 : decode cL_law 426 = .ok (.iadd, 1) := by decide +kernel
theorem dL_law_427 : decode cL_law 427 = .ok (.iconst 3, 1) := by decide +kernel
theorem dL_law_428 : decode cL_law 428 = .ok (.invokevirtual 110, 3) := by decide +kernel
theorem dL_law_431 : decode cL_law 431 = .ok (.aload_n 1, 1) := by decide +kernel
theorem dL_law_432 : decode cL_law 432 = .ok (.iload 13, 2) := by decide +kernel
theorem dL_law_434 : decode cL_law 434 = .ok (.iload 12, 2) := by decide +kernel
theorem dL_law_436 : decode cL_law 436 = .ok (.iconst 3, 1) := by decide +kernel
theorem dL_law_437 : decode cL_law 437 = .ok (.invokevirtual 110, 3) := by decide +kernel
theorem dL_law_440 : decode cL_law 440 = .ok (.if_icmp .eq 5, 3) := by decide +kernel
theorem dL_law_443 : decode cL_law 443 = .ok (.iconst 0, 1) := by decide +kernel
theorem dL_law_444 : decode cL_law 444 = .ok (.ireturn, 1) := by decide +kernel
theorem dL_law_445 : decode cL_law 445 = .ok (.iinc 13 1, 3) := by decide +kernel
theorem dL_law_448 : decode cL_law 448 = .ok (.goto (-306), 3) := by decide +kernel
theorem dL_law_451 : decode cL_law 451 = .ok (.iinc 12 1, 3) := by decide +kernel
theorem dL_law_454 : decode cL_law 454 = .ok (.goto (-322), 3) := by decide +kernel
theorem dL_law_457 : decode cL_law 457 = .ok (.iload 9, 2) := by decide +kernel
theorem dL_law_459 : decode cL_law 459 = .ok (.aload_n 1, 1) := by decide +kernel
theorem dL_law_460 : decode cL_law 460 = .ok (.iconst 4, 1) := by decide +kernel
theorem dL_law_461 : decode cL_law 461 = .ok (.invokevirtual 102, 3) := by decide +kernel
theorem dL_law_464 : decode cL_law 464 = .ok (.if_icmp .ne 49, 3) := by decide +kernel
theorem dL_law_467 : decode cL_law 467 = .ok (.iload 10, 2) := by decide +kernel
theorem dL_law_469 : decode cL_law 469 = .ok (.aload_n 1, 1) := by decide +kernel
theorem dL_law_470 : decode cL_law 470 = .ok (.iconst 3, 1) := by decide +kernel
theorem dL_law_471 : decode cL_law 471 = .ok (.invokevirtual 102, 3) := by decide +kernel
theorem dL_law_474 : decode cL_law 474 = .ok (.if_icmp .ne 39, 3) := by decide +kernel
theorem dL_law_477 : decode cL_law 477 = .ok (.aload_n 1, 1) := by decide +kernel
theorem dL_law_478 : decode cL_law 478 = .ok (.iconst 5, 1) := by decide +kernel
theorem dL_law_479 : decode cL_law 479 = .ok (.invokevirtual 102, 3) := by decide +kernel
theorem dL_law_482 : decode cL_law 482 = .ok (.iload 9, 2) := by decide +kernel
theorem dL_law_484 : decode cL_law 484 = .ok (.if_icmp .gt 29, 3) := by decide +kernel
theorem dL_law_487 : decode cL_law 487 = .ok (.aload_n 1, 1) := by decide +kernel
theorem dL_law_488 : decode cL_law 488 = .ok (.iconst 5, 1) := by decide +kernel
theorem dL_law_489 : decode cL_law 489 = .ok (.invokevirtual 102, 3) := by decide +kernel
theorem dL_law_492 : decode cL_law 492 = .ok (.ifCond .ne 7, 3) := by decide +kernel
theorem dL_law_495 : decode cL_law 495 = .ok (.iconst 1, 1) := by decide +kernel
theorem dL_law_496 : decode cL_law 496 = .ok (.goto 4, 3) := by decide +kernel
theorem dL_law_499 : decode cL_law 499 = .ok (.iconst 0, 1) := by decide +kernel
theorem dL_law_500 : decode cL_law 500 = .ok (.iload 9, 2) := by decide +kernel
theorem dL_law_502 : decode cL_law 502 = .ok (.ifCond .ne 7, 3) := by decide +kernel
theorem dL_law_505 : decode cL_law 505 = .ok (.iconst 1, 1) := by decide +kernel
theorem dL_law_506 : decode cL_law 506 = .ok (.goto 4, 3) := by decide +kernel
theorem dL_law_509 : decode cL_law 509 = .ok (.iconst 0, 1) := by decide +kernel
theorem dL_law_510 : decode cL_law 510 = .ok (.if_icmp .eq 5, 3) := by decide +kernel
theorem dL_law_513 : decode cL_law 513 = .ok (.iconst 0, 1) := by decide +kernel
theorem dL_law_514 : decode cL_law 514 = .ok (.ireturn, 1) := by decide +kernel
theorem dL_law_515 : decode cL_law 515 = .ok (.iload 6, 2) := by decide +kernel
theorem dL_law_517 : decode cL_law 517 = .ok (.newarray .int, 2) := by decide +kernel
theorem dL_law_519 : decode cL_law 519 = .ok (.astore 12, 2) := by decide +kernel
theorem dL_law_521 : decode cL_law 521 = .ok (.iload 6, 2) := by decide +kernel
theorem dL_law_523 : decode cL_law 523 = .ok (.newarray .boolean, 2) := by decide +kernel
theorem dL_law_525 : decode cL_law 525 = .ok (.astore 13, 2) := by decide +kernel
theorem dL_law_527 : decode cL_law 527 = .ok (.iconst 0, 1) := by decide +kernel
theorem dL_law_528 : decode cL_law 528 = .ok (.istore 14, 2) := by decide +kernel
theorem dL_law_530 : decode cL_law 530 = .ok (.iload 14, 2) := by decide +kernel
theorem dL_law_532 : decode cL_law 532 = .ok (.iload 6, 2) := by decide +kernel
theorem dL_law_534 : decode cL_law 534 = .ok (.if_icmp .ge 181, 3) := by decide +kernel
theorem dL_law_537 : decode cL_law 537 = .ok (.aload 12, 2) := by decide +kernel
theorem dL_law_539 : decode cL_law 539 = .ok (.iload 14, 2) := by decide +kernel
theorem dL_law_541 : decode cL_law 541 = .ok (.aload_n 1, 1) := by decide +kernel
theorem dL_law_542 : decode cL_law 542 = .ok (.iload 14, 2) := by decide +kernel
theorem dL_law_544 : decode cL_law 544 = .ok (.iconst 2, 1) := by decide +kernel
theorem dL_law_545 : decode cL_law 545 = .ok (.invokevirtual 112, 3) := by decide +kernel
theorem dL_law_548 : decode cL_law 548 = .ok (.iastore, 1) := by decide +kernel
theorem dL_law_549 : decode cL_law 549 = .ok (.aload_n 1, 1) := by decide +kernel
theorem dL_law_550 : decode cL_law 550 = .ok (.iload 14, 2) := by decide +kernel
theorem dL_law_552 : decode cL_law 552 = .ok (.iconst 3, 1) := by decide +kernel
theorem dL_law_553 : decode cL_law 553 = .ok (.invokevirtual 112, 3) := by decide +kernel
theorem dL_law_556 : decode cL_law 556 = .ok (.iconst 1, 1) := by decide +kernel
theorem dL_law_557 : decode cL_law 557 = .ok (.if_icmp .ne 7, 3) := by decide +kernel
theorem dL_law_560 : decode cL_law 560 = .ok (.iconst 1, 1) := by decide +kernel
theorem dL_law_561 : decode cL_law 561 = .ok (.goto 4, 3) := by decide +kernel
theorem dL_law_564 : decode cL_law 564 = .ok (.iconst 0, 1) := by decide +kernel
theorem dL_law_565 : decode cL_law 565 = .ok (.istore 15, 2) := by decide +kernel
theorem dL_law_567 : decode cL_law 567 = .ok (.iload 11, 2) := by decide +kernel
theorem dL_law_569 : decode cL_law 569 = .ok (.iload 15, 2) := by decide +kernel
theorem dL_law_571 : decode cL_law 571 = .ok (.ifCond .eq 7, 3) := by decide +kernel
theorem dL_law_574 : decode cL_law 574 = .ok (.iconst 0, 1) := by decide +kernel
theorem dL_law_575 : decode cL_law 575 = .ok (.goto 4, 3) := by decide +kernel
theorem dL_law_578 : decode cL_law 578 = .ok (.iconst 1, 1) := by decide +kernel
theorem dL_law_579 : decode cL_law 579 = .ok (.iadd, 1) := by decide +kernel
theorem dL_law_580 : decode cL_law 580 = .ok (.istore 11, 2) := by decide +kernel
theorem dL_law_582 : decode cL_law 582 = .ok (.aload 12, 2) := by decide +kernel
theorem dL_law_584 : decode cL_law 584 = .ok (.iload 14, 2) := by decide +kernel
theorem dL_law_586 : decode cL_law 586 = .ok (.iaload, 1) := by decide +kernel
theorem dL_law_587 : decode cL_law 587 = .ok (.iconst 1, 1) := by decide +kernel
theorem dL_law_588 : decode cL_law 588 = .ok (.if_icmp .lt 61, 3) := by decide +kernel
theorem dL_law_591 : decode cL_law 591 = .ok (.aload 12, 2) := by decide +kernel
theorem dL_law_593 : decode cL_law 593 = .ok (.iload 14, 2) := by decide +kernel
theorem dL_law_595 : decode cL_law 595 = .ok (.iaload, 1) := by decide +kernel
theorem dL_law_596 : decode cL_law 596 = .ok (.bipush 40, 2) := by decide +kernel
theorem dL_law_598 : decode cL_law 598 = .ok (.if_icmp .gt 51, 3) := by decide +kernel
theorem dL_law_601 : decode cL_law 601 = .ok (.iload 15, 2) := by decide +kernel
theorem dL_law_603 : decode cL_law 603 = .ok (.aload_n 1, 1) := by decide +kernel
theorem dL_law_604 : decode cL_law 604 = .ok (.iload 14, 2) := by decide +kernel
theorem dL_law_606 : decode cL_law 606 = .ok (.iconst 4, 1) := by decide +kernel
theorem dL_law_607 : decode cL_law 607 = .ok (.invokevirtual 112, 3) := by decide +kernel
theorem dL_law_610 : decode cL_law 610 = .ok (.ifCond .ne 7, 3) := by decide +kernel
theorem dL_law_613 : decode cL_law 613 = .ok (.iconst 1, 1) := by decide +kernel
theorem dL_law_614 : decode cL_law 614 = .ok (.goto 4, 3) := by decide +kernel
theorem dL_law_617 : decode cL_law 617 = .ok (.iconst 0, 1) := by decide +kernel
theorem dL_law_618 : decode cL_law 618 = .ok (.if_icmp .ne 31, 3) := by decide +kernel
theorem dL_law_621 : decode cL_law 621 = .ok (.iload 15, 2) := by decide +kernel
theorem dL_law_623 : decode cL_law 623 = .ok (.ifCond .ne 28, 3) := by decide +kernel
theorem dL_law_626 : decode cL_law 626 = .ok (.aload_n 1, 1) := by decide +kernel
theorem dL_law_627 : decode cL_law 627 = .ok (.aload_n 1, 1) := by decide +kernel
theorem dL_law_628 : decode cL_law 628 = .ok (.iload 14, 2) := by decide +kernel
theorem dL_law_630 : decode cL_law 630 = .ok (.iconst 0, 1) := by decide +kernel
theorem dL_law_631 : decode cL_law 631 = .ok (.invokevirtual 112, 3) := by decide +kernel
theorem dL_law_634 : decode cL_law 634 = .ok (.aload_n 1, 1) := by decide +kernel
theorem dL_law_635 : decode cL_law 635 = .ok (.iload 14, 2) := by decide +kernel
theorem dL_law_637 : decode cL_law 637 = .ok (.iconst 1, 1) := by decide +kernel
theorem dL_law_638 : decode cL_law 638 = .ok (.invokevirtual 112, 3) := by decide +kernel
theorem dL_law_641 : decode cL_law 641 = .ok (.iconst 0, 1) := by decide +kernel
theorem dL_law_642 : decode cL_law 642 = .ok (.invokevirtual 110, 3) := by decide +kernel
theorem dL_law_645 : decode cL_law 645 = .ok (.iconst 2, 1) := by decide +kernel
theorem dL_law_646 : decode cL_law 646 = .ok (.if_icmp .eq 5, 3) := by decide +kernel
theorem dL_law_649 : decode cL_law 649 = .ok (.iconst 0, 1) := by decide +kernel
theorem dL_law_650 : decode cL_law 650 = .ok (.ireturn, 1) := by decide +kernel
theorem dL_law_651 : decode cL_law 651 = .ok (.aload 13, 2) := by decide +kernel
theorem dL_law_653 : decode cL_law 653 = .ok (.iload 14, 2) := by decide +kernel
theorem dL_law_655 : decode cL_law 655 = .ok (.iload 15, 2) := by decide +kernel
theorem dL_law_657 : decode cL_law 657 = .ok (.ifCond .ne 50, 3) := by decide +kernel
theorem dL_law_660 : decode cL_law 660 = .ok (.aload_n 1, 1) := by decide +kernel
theorem dL_law_661 : decode cL_law 661 = .ok (.aload_n 1, 1) := by decide +kernel
theorem dL_law_662 : decode cL_law 662 = .ok (.iload 14, 2) := by decide +kernel
theorem dL_law_664 : decode cL_law 664 = .ok (.iconst 0, 1) := by decide +kernel
theorem dL_law_665 : decode cL_law 665 = .ok (.invokevirtual 112, 3) := by decide +kernel
theorem dL_law_668 : decode cL_law 668 = .ok (.aload_n 1, 1) := by decide +kernel
theorem dL_law_669 : decode cL_law 669 = .ok (.iload 14, 2) := by decide +kernel
theorem dL_law_671 : decode cL_law 671 = .ok (.iconst 1, 1) := by decide +kernel
theorem dL_law_672 : decode cL_law 672 = .ok (.invokevirtual 112, 3) := by decide +kernel
theorem dL_law_675 : decode cL_law 675 = .ok (.iconst 4, 1) := by decide +kernel
theorem dL_law_676 : decode cL_law 676 = .ok (.invokevirtual 110, 3) := by decide +kernel
theorem dL_law_679 : decode cL_law 679 = .ok (.iconst 2, 1) := by decide +kernel
theorem dL_law_680 : decode cL_law 680 = .ok (.aload_n 1, 1) := by decide +kernel
theorem dL_law_681 : decode cL_law 681 = .ok (.aload_n 1, 1) := by decide +kernel
theorem dL_law_682 : decode cL_law 682 = .ok (.iload 14, 2) := by decide +kernel
theorem dL_law_684 : decode cL_law 684 = .ok (.iconst 0, 1) := by decide +kernel
theorem dL_law_685 : decode cL_law 685 = .ok (.invokevirtual 112, 3) := by decide +kernel
theorem dL_law_688 : decode cL_law 688 = .ok (.aload_n 1, 1) := by decide +kernel
theorem dL_law_689 : decode cL_law 689 = .ok (.iload 14, 2) := by decide +kernel
theorem dL_law_691 : decode cL_law 691 = .ok (.iconst 1, 1) := by decide +kernel
theorem dL_law_692 : decode cL_law 692 = .ok (.invokevirtual 112, 3) := by decide +kernel
theorem dL_law_695 : decode cL_law 695 = .ok (.iconst 3, 1) := by decide +kernel
theorem dL_law_696 : decode cL_law 696 = .ok (.invokevirtual 110, 3) := by decide +kernel
theorem dL_law_699 : decode cL_law 699 = .ok (.imul, 1) := by decide +kernel
theorem dL_law_700 : decode cL_law 700 = .ok (.if_icmp .gt 7, 3) := by decide +kernel
theorem dL_law_703 : decode cL_law 703 = .ok (.iconst 1, 1) := by decide +kernel
theorem dL_law_704 : decode cL_law 704 = .ok (.goto 4, 3) := by decide +kernel
theorem dL_law_707 : decode cL_law 707 = .ok (.iconst 0, 1) := by decide +kernel
theorem dL_law_708 : decode cL_law 708 = .ok (.bastore, 1) := by decide +kernel
theorem dL_law_709 : decode cL_law 709 = .ok (.iinc 14 1, 3) := by decide +kernel
theorem dL_law_712 : decode cL_law 712 = .ok (.goto (-182), 3) := by decide +kernel
theorem dL_law_715 : decode cL_law 715 = .ok (.iload 11, 2) := by decide +kernel
theorem dL_law_717 : decode cL_law 717 = .ok (.aload_n 1, 1) := by decide +kernel
theorem dL_law_718 : decode cL_law 718 = .ok (.bipush 6, 2) := by decide +kernel
theorem dL_law_720 : decode cL_law 720 = .ok (.invokevirtual 102, 3) := by decide +kernel
theorem dL_law_723 : decode cL_law 723 = .ok (.if_icmp .eq 5, 3) := by decide +kernel
theorem dL_law_726 : decode cL_law 726 = .ok (.iconst 0, 1) := by decide +kernel
theorem dL_law_727 : decode cL_law 727 = .ok (.ireturn, 1) := by decide +kernel
theorem dL_law_728 : decode cL_law 728 = .ok (.iload 8, 2) := by decide +kernel
theorem dL_law_730 : decode cL_law 730 = .ok (.newarray .int, 2) := by decide +kernel
theorem dL_law_732 : decode cL_law 732 = .ok (.astore 14, 2) := by decide +kernel
theorem dL_law_734 : decode cL_law 734 = .ok (.iconst 0, 1) := by decide +kernel
theorem dL_law_735 : decode cL_law 735 = .ok (.istore 15, 2) := by decide +kernel
theorem dL_law_737 : decode cL_law 737 = .ok (.iload 15, 2) := by decide +kernel
theorem dL_law_739 : decode cL_law 739 = .ok (.iload 8, 2) := by decide +kernel
theorem dL_law_741 : decode cL_law 741 = .ok (.if_icmp .ge 20, 3) := by decide +kernel
theorem dL_law_744 : decode cL_law 744 = .ok (.aload 14, 2) := by decide +kernel
theorem dL_law_746 : decode cL_law 746 = .ok (.iload 15, 2) := by decide +kernel
theorem dL_law_748 : decode cL_law 748 = .ok (.aload_n 1, 1) := by decide +kernel
theorem dL_law_749 : decode cL_law 749 = .ok (.iload 15, 2) := by decide +kernel
theorem dL_law_751 : decode cL_law 751 = .ok (.invokevirtual 115, 3) := by decide +kernel
theorem dL_law_754 : decode cL_law 754 = .ok (.iastore, 1) := by decide +kernel
theorem dL_law_755 : decode cL_law 755 = .ok (.iinc 15 1, 3) := by decide +kernel
theorem dL_law_758 : decode cL_law 758 = .ok (.goto (-21), 3) := by decide +kernel
theorem dL_law_761 : decode cL_law 761 = .ok (.iconst 0, 1) := by decide +kernel
theorem dL_law_762 : decode cL_law 762 = .ok (.istore 15, 2) := by decide +kernel
theorem dL_law_764 : decode cL_law 764 = .ok (.iconst 0, 1) := by decide +kernel
theorem dL_law_765 : decode cL_law 765 = .ok (.istore 16, 2) := by decide +kernel
theorem dL_law_767 : decode cL_law 767 = .ok (.iload 16, 2) := by decide +kernel
theorem dL_law_769 : decode cL_law 769 = .ok (.iload 7, 2) := by decide +kernel
theorem dL_law_771 : decode cL_law 771 = .ok (.if_icmp .ge 123, 3) := by decide +kernel
theorem dL_law_774 : decode cL_law 774 = .ok (.aload_n 1, 1) := by decide +kernel
theorem dL_law_775 : decode cL_law 775 = .ok (.iload 16, 2) := by decide +kernel
theorem dL_law_777 : decode cL_law 777 = .ok (.iconst 3, 1) := by decide +kernel
theorem dL_law_778 : decode cL_law 778 = .ok (.invokevirtual 118, 3) := by decide +kernel
theorem dL_law_781 : decode cL_law 781 = .ok (.istore 17, 2) := by decide +kernel
theorem dL_law_783 : decode cL_law 783 = .ok (.iload 15, 2) := by decide +kernel
theorem dL_law_785 : decode cL_law 785 = .ok (.iload 17, 2) := by decide +kernel
theorem dL_law_787 : decode cL_law 787 = .ok (.invokestatic 121, 3) := by decide +kernel
theorem dL_law_790 : decode cL_law 790 = .ok (.istore 15, 2) := by decide +kernel
theorem dL_law_792 : decode cL_law 792 = .ok (.aload_n 1, 1) := by decide +kernel
theorem dL_law_793 : decode cL_law 793 = .ok (.iload 16, 2) := by decide +kernel
theorem dL_law_795 : decode cL_law 795 = .ok (.iconst 0, 1) := by decide +kernel
theorem dL_law_796 : decode cL_law 796 = .ok (.invokevirtual 118, 3) := by decide +kernel
theorem dL_law_799 : decode cL_law 799 = .ok (.bipush 9, 2) := by decide +kernel
theorem dL_law_801 : decode cL_law 801 = .ok (.if_icmp .gt 85, 3) := by decide +kernel
theorem dL_law_804 : decode cL_law 804 = .ok (.aload_n 1, 1) := by decide +kernel
theorem dL_law_805 : decode cL_law 805 = .ok (.iload 16, 2) := by decide +kernel
theorem dL_law_807 : decode cL_law 807 = .ok (.iconst 1, 1) := by decide +kernel
theorem dL_law_808 : decode cL_law 808 = .ok (.invokevirtual 118, 3) := by decide +kernel
theorem dL_law_811 : decode cL_law 811 = .ok (.aload_n 1, 1) := by decide +kernel
theorem dL_law_812 : decode cL_law 812 = .ok (.iload 16, 2) := by decide +kernel
theorem dL_law_814 : decode cL_law 814 = .ok (.iconst 2, 1) := by decide +kernel
theorem dL_law_815 : decode cL_law 815 = .ok (.invokevirtual 118, 3) := by decide +kernel
theorem dL_law_818 : decode cL_law 818 = .ok (.iadd, 1) := by decide +kernel
theorem dL_law_819 : decode cL_law 819 = .ok (.aload_n 1, 1) := by decide +kernel
theorem dL_law_820 : decode cL_law 820 = .ok (.iload 16, 2) := by decide +kernel
theorem dL_law_822 : decode cL_law 822 = .ok (.iconst 0, 1) := by decide +kernel
theorem dL_law_823 : decode cL_law 823 = .ok (.invokevirtual 118, 3) := by decide +kernel
theorem dL_law_826 : decode cL_law 826 = .ok (.if_icmp .gt 60, 3) := by decide +kernel
theorem dL_law_829 : decode cL_law 829 = .ok (.iload 17, 2) := by decide +kernel
theorem dL_law_831 : decode cL_law 831 = .ok (.aload_n 1, 1) := by decide +kernel
theorem dL_law_832 : decode cL_law 832 = .ok (.iload 16, 2) := by decide +kernel
theorem dL_law_834 : decode cL_law 834 = .ok (.iconst 1, 1) := by decide +kernel
theorem dL_law_835 : decode cL_law 835 = .ok (.invokevirtual 118, 3) := by decide +kernel
theorem dL_law_838 : decode cL_law 838 = .ok (.iconst 3, 1) := by decide +kernel
theorem dL_law_839 : decode cL_law 839 = .ok (.aload_n 1, 1) := by decide +kernel
theorem dL_law_840 : decode cL_law 840 = .ok (.iload 16, 2) := by decide +kernel
theorem dL_law_842 : decode cL_law 842 = .ok (.iconst 2, 1) := by decide +kernel
theorem dL_law_843 : decode cL_law 843 = .ok (.invokevirtual 118, 3) := by decide +kernel
theorem dL_law_846 : decode cL_law 846 = .ok (.imul, 1) := by decide +kernel
theorem dL_law_847 : decode cL_law 847 = .ok (.iadd, 1) := by decide +kernel
theorem dL_law_848 : decode cL_law 848 = .ok (.if_icmp .lt 38, 3) := by decide +kernel
theorem dL_law_851 : decode cL_law 851 = .ok (.iload 17, 2) := by decide +kernel
theorem dL_law_853 : decode cL_law 853 = .ok (.bipush 13, 2) := by decide +kernel
theorem dL_law_855 : decode cL_law 855 = .ok (.aload_n 1, 1) := by decide +kernel
theorem dL_law_856 : decode cL_law 856 = .ok (.iload 16, 2) := by decide +kernel
theorem dL_law_858 : decode cL_law 858 = .ok (.iconst 1, 1) := by decide +kernel
theorem dL_law_859 : decode cL_law 859 = .ok (.invokevirtual 118, 3) := by decide +kernel
theorem dL_law_862 : decode cL_law 862 = .ok (.imul, 1) := by decide +kernel
theorem dL_law_863 : decode cL_law 863 = .ok (.iconst 3, 1) := by decide +kernel
theorem dL_law_864 : decode cL_law 864 = .ok (.aload_n 1, 1) := by decide +kernel
theorem dL_law_865 : decode cL_law 865 = .ok (.iload 16, 2) := by decide +kernel
theorem dL_law_867 : decode cL_law 867 = .ok (.iconst 2, 1) := by decide +kernel
theorem dL_law_868 : decode cL_law 868 = .ok (.invokevirtual 118, 3) := by decide +kernel
theorem dL_law_871 : decode cL_law 871 = .ok (.imul, 1) := by decide +kernel
theorem dL_law_872 : decode cL_law 872 = .ok (.iadd, 1) := by decide +kernel
theorem dL_law_873 : decode cL_law 873 = .ok (.aload_n 1, 1) := by decide +kernel
theorem dL_law_874 : decode cL_law 874 = .ok (.bipush 7, 2) := by decide +kernel
theorem dL_law_876 : decode cL_law 876 = .ok (.invokevirtual 102, 3) := by decide +kernel
theorem dL_law_879 : decode cL_law 879 = .ok (.bipush 10, 2) := by decide +kernel
theorem dL_law_881 : decode cL_law 881 = .ok (.idiv, 1) := by decide +kernel
theorem dL_law_882 : decode cL_law 882 = .ok (.iadd, 1) := by decide +kernel
theorem dL_law_883 : decode cL_law 883 = .ok (.if_icmp .le 5, 3) := by decide +kernel
theorem dL_law_886 : decode cL_law 886 = .ok (.iconst 0, 1) := by decide +kernel
theorem dL_law_887 : decode cL_law 887 = .ok (.ireturn, 1) := by decide +kernel
theorem dL_law_888 : decode cL_law 888 = .ok (.iinc 16 1, 3) := by decide +kernel
theorem dL_law_891 : decode cL_law 891 = .ok (.goto (-124), 3) := by decide +kernel
theorem dL_law_894 : decode cL_law 894 = .ok (.aload_n 1, 1) := by decide +kernel
theorem dL_law_895 : decode cL_law 895 = .ok (.invokevirtual 124, 3) := by decide +kernel
theorem dL_law_898 : decode cL_law 898 = .ok (.ifCond .ge 7, 3) := by decide +kernel
theorem dL_law_901 : decode cL_law 901 = .ok (.iconst 1, 1) := by decide +kernel
theorem dL_law_902 : decode cL_law 902 = .ok (.goto 4, 3) := by decide +kernel
theorem dL_law_905 : decode cL_law 905 = .ok (.iconst 0, 1) := by decide +kernel
theorem dL_law_906 : decode cL_law 906 = .ok (.iload 7, 2) := by decide +kernel
theorem dL_law_908 : decode cL_law 908 = .ok (.ifCond .ne 7, 3) := by decide +kernel
theorem dL_law_911 : decode cL_law 911 = .ok (.iconst 1, 1) := by decide +kernel
theorem dL_law_912 : decode cL_law 912 = .ok (.goto 4, 3) := by decide +kernel
theorem dL_law_915 : decode cL_law 915 = .ok (.iconst 0, 1) := by decide +kernel
theorem dL_law_916 : decode cL_law 916 = .ok (.if_icmp .ne 22, 3) := by decide +kernel
theorem dL_law_919 : decode cL_law 919 = .ok (.iload 7, 2) := by decide +kernel
theorem dL_law_921 : decode cL_law 921 = .ok (.ifCond .le 19, 3) := by decide +kernel
theorem dL_law_924 : decode cL_law 924 = .ok (.aload_n 1, 1) := by decide +kernel
theorem dL_law_925 : decode cL_law 925 = .ok (.aload_n 1, 1) := by decide +kernel
theorem dL_law_926 : decode cL_law 926 = .ok (.invokevirtual 124, 3) := by decide +kernel
theorem dL_law_929 : decode cL_law 929 = .ok (.iconst 3, 1) := by decide +kernel
theorem dL_law_930 : decode cL_law 930 = .ok (.invokevirtual 118, 3) := by decide +kernel
theorem dL_law_933 : decode cL_law 933 = .ok (.iload 15, 2) := by decide +kernel
theorem dL_law_935 : decode cL_law 935 = .ok (.if_icmp .eq 5, 3) := by decide +kernel
theorem dL_law_938 : decode cL_law 938 = .ok (.iconst 0, 1) := by decide +kernel
theorem dL_law_939 : decode cL_law 939 = .ok (.ireturn, 1) := by decide +kernel
theorem dL_law_940 : decode cL_law 940 = .ok (.aload_n 1, 1) := by decide +kernel
theorem dL_law_941 : decode cL_law 941 = .ok (.iconst 2, 1) := by decide +kernel
theorem dL_law_942 : decode cL_law 942 = .ok (.invokevirtual 102, 3) := by decide +kernel
theorem dL_law_945 : decode cL_law 945 = .ok (.istore 5, 2) := by decide +kernel
theorem dL_law_947 : decode cL_law 947 = .ok (.aload_n 1, 1) := by decide +kernel
theorem dL_law_948 : decode cL_law 948 = .ok (.iconst 0, 1) := by decide +kernel
theorem dL_law_949 : decode cL_law 949 = .ok (.invokevirtual 102, 3) := by decide +kernel
theorem dL_law_952 : decode cL_law 952 = .ok (.istore 16, 2) := by decide +kernel
theorem dL_law_954 : decode cL_law 954 = .ok (.aload_n 1, 1) := by decide +kernel
theorem dL_law_955 : decode cL_law 955 = .ok (.bipush 10, 2) := by decide +kernel
theorem dL_law_957 : decode cL_law 957 = .ok (.invokevirtual 102, 3) := by decide +kernel
theorem dL_law_960 : decode cL_law 960 = .ok (.istore 17, 2) := by decide +kernel
theorem dL_law_962 : decode cL_law 962 = .ok (.aload_n 1, 1) := by decide +kernel
theorem dL_law_963 : decode cL_law 963 = .ok (.iconst 1, 1) := by decide +kernel
theorem dL_law_964 : decode cL_law 964 = .ok (.invokevirtual 102, 3) := by decide +kernel
theorem dL_law_967 : decode cL_law 967 = .ok (.iconst 1, 1) := by decide +kernel
theorem dL_law_968 : decode cL_law 968 = .ok (.if_icmp .ne 7, 3) := by decide +kernel
theorem dL_law_971 : decode cL_law 971 = .ok (.iconst 1, 1) := by decide +kernel
theorem dL_law_972 : decode cL_law 972 = .ok (.goto 4, 3) := by decide +kernel
theorem dL_law_975 : decode cL_law 975 = .ok (.iconst 0, 1) := by decide +kernel
theorem dL_law_976 : decode cL_law 976 = .ok (.istore 18, 2) := by decide +kernel
theorem dL_law_978 : decode cL_law 978 = .ok (.aload_n 1, 1) := by decide +kernel
theorem dL_law_979 : decode cL_law 979 = .ok (.invokevirtual 127, 3) := by decide +kernel
theorem dL_law_982 : decode cL_law 982 = .ok (.lstore 19, 2) := by decide +kernel
theorem dL_law_984 : decode cL_law 984 = .ok (.iconst 3, 1) := by decide +kernel
theorem dL_law_985 : decode cL_law 985 = .ok (.newarray .int, 2) := by decide +kernel
theorem dL_law_987 : decode cL_law 987 = .ok (.dup, 1) := by decide +kernel
theorem dL_law_988 : decode cL_law 988 = .ok (.iconst 0, 1) := by decide +kernel
theorem dL_law_989 : decode cL_law 989 = .ok (.aload_n 1, 1) := by decide +kernel
theorem dL_law_990 : decode cL_law 990 = .ok (.iconst 1, 1) := by decide +kernel
theorem dL_law_991 : decode cL_law 991 = .ok (.iconst 2, 1) := by decide +kernel
theorem dL_law_992 : decode cL_law 992 = .ok (.invokevirtual 131, 3) := by decide +kernel
theorem dL_law_995 : decode cL_law 995 = .ok (.iastore, 1) := by decide +kernel
theorem dL_law_996 : decode cL_law 996 = .ok (.dup, 1) := by decide +kernel
theorem dL_law_997 : decode cL_law 997 = .ok (.iconst 1, 1) := by decide +kernel
theorem dL_law_998 : decode cL_law 998 = .ok (.aload_n 1, 1) := by decide +kernel
theorem dL_law_999 : decode cL_law 999 = .ok (.iconst 1, 1) := by decide +kernel
theorem dL_law_1000 : decode cL_law 1000 = .ok (.bipush 7, 2) := by decide +kernel
theorem dL_law_1002 : decode cL_law 1002 = .ok (.invokevirtual 131, 3) := by decide +kernel
theorem dL_law_1005 : decode cL_law 1005 = .ok (.iastore, 1) := by decide +kernel
theorem dL_law_1006 : decode cL_law 1006 = .ok (.dup, 1) := by decide +kernel
theorem dL_law_1007 : decode cL_law 1007 = .ok (.iconst 2, 1) := by decide +kernel
theorem dL_law_1008 : decode cL_law 1008 = .ok (.aload_n 1, 1) := by decide +kernel
theorem dL_law_1009 : decode cL_law 1009 = .ok (.iconst 1, 1) := by decide +kernel
theorem dL_law_1010 : decode cL_law 1010 = .ok (.bipush 10, 2) := by decide +kernel
theorem dL_law_1012 : decode cL_law 1012 = .ok (.invokevirtual 131, 3) := by decide +kernel
theorem dL_law_1015 : decode cL_law 1015 = .ok (.iastore, 1) := by decide +kernel
theorem dL_law_1016 : decode cL_law 1016 = .ok (.astore 21, 2) := by decide +kernel
theorem dL_law_1018 : decode cL_law 1018 = .ok (.iload 7, 2) := by decide +kernel
theorem dL_law_1020 : decode cL_law 1020 = .ok (.ifCond .ne 7, 3) := by decide +kernel
theorem dL_law_1023 : decode cL_law 1023 = .ok (.iconst (-1), 1) := by decide +kernel
theorem dL_law_1024 : decode cL_law 1024 = .ok (.goto 12, 3) := by decide +kernel
theorem dL_law_1027 : decode cL_law 1027 = .ok (.iload 4, 2) := by decide +kernel
theorem dL_law_1029 : decode cL_law 1029 = .ok (.iconst 4, 1) := by decide +kernel
theorem dL_law_1030 : decode cL_law 1030 = .ok (.ishr, 1) := by decide +kernel
theorem dL_law_1031 : decode cL_law 1031 = .ok (.iload 7, 2) := by decide +kernel
theorem dL_law_1033 : decode cL_law 1033 = .ok (.invokestatic 9, 3) := by decide +kernel
theorem dL_law_1036 : decode cL_law 1036 = .ok (.istore 22, 2) := by decide +kernel
theorem dL_law_1038 : decode cL_law 1038 = .ok (.iload 4, 2) := by decide +kernel
theorem dL_law_1040 : decode cL_law 1040 = .ok (.iconst 5, 1) := by decide +kernel
theorem dL_law_1041 : decode cL_law 1041 = .ok (.ishr, 1) := by decide +kernel
theorem dL_law_1042 : decode cL_law 1042 = .ok (.bipush 6, 2) := by decide +kernel
theorem dL_law_1044 : decode cL_law 1044 = .ok (.invokestatic 9, 3) := by decide +kernel
theorem dL_law_1047 : decode cL_law 1047 = .ok (.istore 23, 2) := by decide +kernel
theorem dL_law_1049 : decode cL_law 1049 = .ok (.iconst 1, 1) := by decide +kernel
theorem dL_law_1050 : decode cL_law 1050 = .ok (.iload 4, 2) := by decide +kernel
theorem dL_law_1052 : decode cL_law 1052 = .ok (.bipush 6, 2) := by decide +kernel
theorem dL_law_1054 : decode cL_law 1054 = .ok (.ishr, 1) := by decide +kernel
theorem dL_law_1055 : decode cL_law 1055 = .ok (.bipush 9, 2) := by decide +kernel
theorem dL_law_1057 : decode cL_law 1057 = .ok (.invokestatic 9, 3) := by decide +kernel
theorem dL_law_1060 : decode cL_law 1060 = .ok (.iadd, 1) := by decide +kernel
theorem dL_law_1061 : decode cL_law 1061 = .ok (.istore 24, 2) := by decide +kernel
theorem dL_law_1063 : decode cL_law 1063 = .ok (.iload 22, 2) := by decide +kernel
theorem dL_law_1065 : decode cL_law 1065 = .ok (.ifCond .ge 7, 3) := by decide +kernel
theorem dL_law_1068 : decode cL_law 1068 = .ok (.iconst (-1), 1) := by decide +kernel
theorem dL_law_1069 : decode cL_law 1069 = .ok (.goto 13, 3) := by decide +kernel
theorem dL_law_1072 : decode cL_law 1072 = .ok (.aload_n 1, 1) := by decide +kernel
theorem dL_law_1073 : decode cL_law 1073 = .ok (.iload 22, 2) := by decide +kernel
theorem dL_law_1075 : decode cL_law 1075 = .ok (.iload 23, 2) := by decide +kernel
theorem dL_law_1077 : decode cL_law 1077 = .ok (.iload 24, 2) := by decide +kernel
theorem dL_law_1079 : decode cL_law 1079 = .ok (.invokevirtual 134, 3) := by decide +kernel
theorem dL_law_1082 : decode cL_law 1082 = .ok (.istore 25, 2) := by decide +kernel
theorem dL_law_1084 : decode cL_law 1084 = .ok (.aload_n 1, 1) := by decide +kernel
theorem dL_law_1085 : decode cL_law 1085 = .ok (.invokevirtual 127, 3) := by decide +kernel
theorem dL_law_1088 : decode cL_law 1088 = .ok (.lload 19, 2) := by decide +kernel
theorem dL_law_1090 : decode cL_law 1090 = .ok (.lcmp, 1) := by decide +kernel
theorem dL_law_1091 : decode cL_law 1091 = .ok (.ifCond .ne 45, 3) := by decide +kernel
theorem dL_law_1094 : decode cL_law 1094 = .ok (.iload 18, 2) := by decide +kernel
theorem dL_law_1096 : decode cL_law 1096 = .ok (.iload 16, 2) := by decide +kernel
theorem dL_law_1098 : decode cL_law 1098 = .ok (.bipush 8, 2) := by decide +kernel
theorem dL_law_1100 : decode cL_law 1100 = .ok (.irem, 1) := by decide +kernel
theorem dL_law_1101 : decode cL_law 1101 = .ok (.iconst 4, 1) := by decide +kernel
theorem dL_law_1102 : decode cL_law 1102 = .ok (.if_icmp .ne 7, 3) := by decide +kernel
theorem dL_law_1105 : decode cL_law 1105 = .ok (.iconst 1, 1) := by decide +kernel
theorem dL_law_1106 : decode cL_law 1106 = .ok (.goto 4, 3) := by decide +kernel
theorem dL_law_1109 : decode cL_law 1109 = .ok (.iconst 0, 1) := by decide +kernel
theorem dL_law_1110 : decode cL_law 1110 = .ok (.if_icmp .ne 26, 3) := by decide +kernel
theorem dL_law_1113 : decode cL_law 1113 = .ok (.iload 25, 2) := by decide +kernel
theorem dL_law_1115 : decode cL_law 1115 = .ok (.ifCond .lt 23, 3) := by decide +kernel
theorem dL_law_1118 : decode cL_law 1118 = .ok (.aload_n 1, 1) := by decide +kernel
theorem dL_law_1119 : decode cL_law 1119 = .ok (.iload 25, 2) := by decide +kernel
theorem dL_law_1121 : decode cL_law 1121 = .ok (.bipush 10, 2) := by decide +kernel
theorem dL_law_1123 : decode cL_law 1123 = .ok (.irem, 1) := by decide +kernel
theorem dL_law_1124 : decode cL_law 1124 = .ok (.iload 25, 2) := by decide +kernel
theorem dL_law_1126 : decode cL_law 1126 = .ok (.bipush 10, 2) := by decide +kernel
theorem dL_law_1128 : decode cL_law 1128 = .ok (.idiv, 1) := by decide +kernel
theorem dL_law_1129 : decode cL_law 1129 = .ok (.iconst 0, 1) := by decide +kernel
theorem dL_law_1130 : decode cL_law 1130 = .ok (.invokevirtual 110, 3) := by decide +kernel
theorem dL_law_1133 : decode cL_law 1133 = .ok (.ifCond .eq 5, 3) := by decide +kernel
theorem dL_law_1136 : decode cL_law 1136 = .ok (.iconst 0, 1) := by decide +kernel
theorem dL_law_1137 : decode cL_law 1137 = .ok (.ireturn, 1) := by decide +kernel
theorem dL_law_1138 : decode cL_law 1138 = .ok (.aload_n 1, 1) := by decide +kernel
theorem dL_law_1139 : decode cL_law 1139 = .ok (.iconst 1, 1) := by decide +kernel
theorem dL_law_1140 : decode cL_law 1140 = .ok (.invokevirtual 91, 3) := by decide +kernel
theorem dL_law_1143 : decode cL_law 1143 = .ok (.istore 26, 2) := by decide +kernel
theorem dL_law_1145 : decode cL_law 1145 = .ok (.iload 26, 2) := by decide +kernel
theorem dL_law_1147 : decode cL_law 1147 = .ok (.aload_n 2, 1) := by decide +kernel
theorem dL_law_1148 : decode cL_law 1148 = .ok (.invokevirtual 94, 3) := by decide +kernel
theorem dL_law_1151 : decode cL_law 1151 = .ok (.if_icmp .ne 83, 3) := by decide +kernel
theorem dL_law_1154 : decode cL_law 1154 = .ok (.aload_n 1, 1) := by decide +kernel
theorem dL_law_1155 : decode cL_law 1155 = .ok (.iconst 2, 1) := by decide +kernel
theorem dL_law_1156 : decode cL_law 1156 = .ok (.invokevirtual 102, 3) := by decide +kernel
theorem dL_law_1159 : decode cL_law 1159 = .ok (.aload 21, 2) := by decide +kernel
theorem dL_law_1161 : decode cL_law 1161 = .ok (.iconst 0, 1) := by decide +kernel
theorem dL_law_1162 : decode cL_law 1162 = .ok (.iaload, 1) := by decide +kernel
theorem dL_law_1163 : decode cL_law 1163 = .ok (.if_icmp .ne 71, 3) := by decide +kernel
theorem dL_law_1166 : decode cL_law 1166 = .ok (.aload_n 1, 1) := by decide +kernel
theorem dL_law_1167 : decode cL_law 1167 = .ok (.bipush 7, 2) := by decide +kernel
theorem dL_law_1169 : decode cL_law 1169 = .ok (.invokevirtual 102, 3) := by decide +kernel
theorem dL_law_1172 : decode cL_law 1172 = .ok (.aload 21, 2) := by decide +kernel
theorem dL_law_1174 : decode cL_law 1174 = .ok (.iconst 1, 1) := by decide +kernel
theorem dL_law_1175 : decode cL_law 1175 = .ok (.iaload, 1) := by decide +kernel
theorem dL_law_1176 : decode cL_law 1176 = .ok (.if_icmp .ne 58, 3) := by decide +kernel
theorem dL_law_1179 : decode cL_law 1179 = .ok (.aload_n 1, 1) := by decide +kernel
theorem dL_law_1180 : decode cL_law 1180 = .ok (.bipush 10, 2) := by decide +kernel
theorem dL_law_1182 : decode cL_law 1182 = .ok (.invokevirtual 102, 3) := by decide +kernel
theorem dL_law_1185 : decode cL_law 1185 = .ok (.aload 21, 2) := by decide +kernel
theorem dL_law_1187 : decode cL_law 1187 = .ok (.iconst 2, 1) := by decide +kernel
theorem dL_law_1188 : decode cL_law 1188 = .ok (.iaload, 1) := by decide +kernel
theorem dL_law_1189 : decode cL_law 1189 = .ok (.if_icmp .ne 45, 3) := by decide +kernel
theorem dL_law_1192 : decode cL_law 1192 = .ok (.aload_n 1, 1) := by decide +kernel
theorem dL_law_1193 : decode cL_law 1193 = .ok (.iconst 2, 1) := by decide +kernel
theorem dL_law_1194 : decode cL_law 1194 = .ok (.invokevirtual 102, 3) := by decide +kernel
theorem dL_law_1197 : decode cL_law 1197 = .ok (.iload 5, 2) := by decide +kernel
theorem dL_law_1199 : decode cL_law 1199 = .ok (.iload 26, 2) := by decide +kernel
theorem dL_law_1201 : decode cL_law 1201 = .ok (.bipush 10, 2) := by decide +kernel
theorem dL_law_1203 : decode cL_law 1203 = .ok (.idiv, 1) := by decide +kernel
theorem dL_law_1204 : decode cL_law 1204 = .ok (.iadd, 1) := by decide +kernel
theorem dL_law_1205 : decode cL_law 1205 = .ok (.if_icmp .ne 29, 3) := by decide +kernel
theorem dL_law_1208 : decode cL_law 1208 = .ok (.aload_n 1, 1) := by decide +kernel
theorem dL_law_1209 : decode cL_law 1209 = .ok (.bipush 10, 2) := by decide +kernel
theorem dL_law_1211 : decode cL_law 1211 = .ok (.invokevirtual 102, 3) := by decide +kernel
theorem dL_law_1214 : decode cL_law 1214 = .ok (.iload 17, 2) := by decide +kernel
theorem dL_law_1216 : decode cL_law 1216 = .ok (.iload 26, 2) := by decide +kernel
theorem dL_law_1218 : decode cL_law 1218 = .ok (.iadd, 1) := by decide +kernel
theorem dL_law_1219 : decode cL_law 1219 = .ok (.if_icmp .ne 15, 3) := by decide +kernel
theorem dL_law_1222 : decode cL_law 1222 = .ok (.aload_n 1, 1) := by decide +kernel
theorem dL_law_1223 : decode cL_law 1223 = .ok (.iconst 0, 1) := by decide +kernel
theorem dL_law_1224 : decode cL_law 1224 = .ok (.invokevirtual 102, 3) := by decide +kernel
theorem dL_law_1227 : decode cL_law 1227 = .ok (.iload 16, 2) := by decide +kernel
theorem dL_law_1229 : decode cL_law 1229 = .ok (.iconst 1, 1) := by decide +kernel
theorem dL_law_1230 : decode cL_law 1230 = .ok (.iadd, 1) := by decide +kernel
theorem dL_law_1231 : decode cL_law 1231 = .ok (.if_icmp .eq 5, 3) := by decide +kernel
theorem dL_law_1234 : decode cL_law 1234 = .ok (.iconst 0, 1) := by decide +kernel
theorem dL_law_1235 : decode cL_law 1235 = .ok (.ireturn, 1) := by decide +kernel
theorem dL_law_1236 : decode cL_law 1236 = .ok (.iconst 0, 1) := by decide +kernel
theorem dL_law_1237 : decode cL_law 1237 = .ok (.istore 27, 2) := by decide +kernel
theorem dL_law_1239 : decode cL_law 1239 = .ok (.iload 27, 2) := by decide +kernel
theorem dL_law_1241 : decode cL_law 1241 = .ok (.iload 6, 2) := by decide +kernel
theorem dL_law_1243 : decode cL_law 1243 = .ok (.if_icmp .ge 90, 3) := by decide +kernel
theorem dL_law_1246 : decode cL_law 1246 = .ok (.aload_n 1, 1) := by decide +kernel
theorem dL_law_1247 : decode cL_law 1247 = .ok (.iload 27, 2) := by decide +kernel
theorem dL_law_1249 : decode cL_law 1249 = .ok (.iconst 3, 1) := by decide +kernel
theorem dL_law_1250 : decode cL_law 1250 = .ok (.invokevirtual 112, 3) := by decide +kernel
theorem dL_law_1253 : decode cL_law 1253 = .ok (.iconst 1, 1) := by decide +kernel
theorem dL_law_1254 : decode cL_law 1254 = .ok (.if_icmp .ne 7, 3) := by decide +kernel
theorem dL_law_1257 : decode cL_law 1257 = .ok (.iconst 1, 1) := by decide +kernel
theorem dL_law_1258 : decode cL_law 1258 = .ok (.goto 4, 3) := by decide +kernel
theorem dL_law_1261 : decode cL_law 1261 = .ok (.iconst 0, 1) := by decide +kernel
theorem dL_law_1262 : decode cL_law 1262 = .ok (.istore 28, 2) := by decide +kernel
theorem dL_law_1264 : decode cL_law 1264 = .ok (.iload 28, 2) := by decide +kernel
theorem dL_law_1266 : decode cL_law 1266 = .ok (.ifCond .eq 11, 3) := by decide +kernel
theorem dL_law_1269 : decode cL_law 1269 = .ok (.aload 12, 2) := by decide +kernel
theorem dL_law_1271 : decode cL_law 1271 = .ok (.iload 27, 2) := by decide +kernel
theorem dL_law_1273 : decode cL_law 1273 = .ok (.iaload, 1) := by decide +kernel
theorem dL_law_1274 : decode cL_law 1274 = .ok (.goto 37, 3) := by decide +kernel
theorem dL_law_1277 : decode cL_law 1277 = .ok (.aload 13, 2) := by decide +kernel
theorem dL_law_1279 : decode cL_law 1279 = .ok (.iload 27, 2) := by decide +kernel
theorem dL_law_1281 : decode cL_law 1281 = .ok (.baload, 1) := by decide +kernel
theorem dL_law_1282 : decode cL_law 1282 = .ok (.ifCond .eq 18, 3) := by decide +kernel
theorem dL_law_1285 : decode cL_law 1285 = .ok (.bipush 40, 2) := by decide +kernel
theorem dL_law_1287 : decode cL_law 1287 = .ok (.aload 12, 2) := by decide +kernel
theorem dL_law_1289 : decode cL_law 1289 = .ok (.iload 27, 2) := by decide +kernel
theorem dL_law_1291 : decode cL_law 1291 = .ok (.iaload, 1) := by decide +kernel
theorem dL_law_1292 : decode cL_law 1292 = .ok (.iconst 1, 1) := by decide +kernel
theorem dL_law_1293 : decode cL_law 1293 = .ok (.iadd, 1) := by decide +kernel
theorem dL_law_1294 : decode cL_law 1294 = .ok (.invokestatic 137, 3) := by decide +kernel
theorem dL_law_1297 : decode cL_law 1297 = .ok (.goto 14, 3) := by decide +kernel
theorem dL_law_1300 : decode cL_law 1300 = .ok (.iconst 1, 1) := by decide +kernel
theorem dL_law_1301 : decode cL_law 1301 = .ok (.aload 12, 2) := by decide +kernel
theorem dL_law_1303 : decode cL_law 1303 = .ok (.iload 27, 2) := by decide +kernel
theorem dL_law_1305 : decode cL_law 1305 = .ok (.iaload, 1) := by decide +kernel
theorem dL_law_1306 : decode cL_law 1306 = .ok (.iconst 1, 1) := by decide +kernel
theorem dL_law_1307 : decode cL_law 1307 = .ok (.isub, 1) := by decide +kernel
theorem dL_law_1308 : decode cL_law 1308 = .ok (.invokestatic 121, 3) := by decide +kernel
theorem dL_law_1311 : decode cL_law 1311 = .ok (.istore 29, 2) := by decide +kernel
theorem dL_law_1313 : decode cL_law 1313 = .ok (.aload_n 1, 1) := by decide +kernel
theorem dL_law_1314 : decode cL_law 1314 = .ok (.iload 27, 2) := by decide +kernel
theorem dL_law_1316 : decode cL_law 1316 = .ok (.iconst 2, 1) := by decide +kernel
theorem dL_law_1317 : decode cL_law 1317 = .ok (.invokevirtual 112, 3) := by decide +kernel
theorem dL_law_1320 : decode cL_law 1320 = .ok (.iload 29, 2) := by decide +kernel
theorem dL_law_1322 : decode cL_law 1322 = .ok (.if_icmp .eq 5, 3) := by decide +kernel
theorem dL_law_1325 : decode cL_law 1325 = .ok (.iconst 0, 1) := by decide +kernel
theorem dL_law_1326 : decode cL_law 1326 = .ok (.ireturn, 1) := by decide +kernel
theorem dL_law_1327 : decode cL_law 1327 = .ok (.iinc 27 1, 3) := by decide +kernel
theorem dL_law_1330 : decode cL_law 1330 = .ok (.goto (-91), 3) := by decide +kernel
theorem dL_law_1333 : decode cL_law 1333 = .ok (.iconst 0, 1) := by decide +kernel
theorem dL_law_1334 : decode cL_law 1334 = .ok (.istore 27, 2) := by decide +kernel
theorem dL_law_1336 : decode cL_law 1336 = .ok (.iload 27, 2) := by decide +kernel
theorem dL_law_1338 : decode cL_law 1338 = .ok (.iload 8, 2) := by decide +kernel
theorem dL_law_1340 : decode cL_law 1340 = .ok (.if_icmp .ge 53, 3) := by decide +kernel
theorem dL_law_1343 : decode cL_law 1343 = .ok (.aload_n 1, 1) := by decide +kernel
theorem dL_law_1344 : decode cL_law 1344 = .ok (.iload 27, 2) := by decide +kernel
theorem dL_law_1346 : decode cL_law 1346 = .ok (.invokevirtual 115, 3) := by decide +kernel
theorem dL_law_1349 : decode cL_law 1349 = .ok (.aload 14, 2) := by decide +kernel
theorem dL_law_1351 : decode cL_law 1351 = .ok (.iload 27, 2) := by decide +kernel
theorem dL_law_1353 : decode cL_law 1353 = .ok (.iaload, 1) := by decide +kernel
theorem dL_law_1354 : decode cL_law 1354 = .ok (.isub, 1) := by decide +kernel
theorem dL_law_1355 : decode cL_law 1355 = .ok (.aload_n 1, 1) := by decide +kernel
theorem dL_law_1356 : decode cL_law 1356 = .ok (.aload_n 2, 1) := by decide +kernel
theorem dL_law_1357 : decode cL_law 1357 = .ok (.getfield 72, 3) := by decide +kernel
theorem dL_law_1360 : decode cL_law 1360 = .ok (.iload 27, 2) := by decide +kernel
theorem dL_law_1362 : decode cL_law 1362 = .ok (.aaload, 1) := by decide +kernel
theorem dL_law_1363 : decode cL_law 1363 = .ok (.iconst 0, 1) := by decide +kernel
theorem dL_law_1364 : decode cL_law 1364 = .ok (.iaload, 1) := by decide +kernel
theorem dL_law_1365 : decode cL_law 1365 = .ok (.iconst 3, 1) := by decide +kernel
theorem dL_law_1366 : decode cL_law 1366 = .ok (.invokevirtual 118, 3) := by decide +kernel
theorem dL_law_1369 : decode cL_law 1369 = .ok (.iconst 5, 1) := by decide +kernel
theorem dL_law_1370 : decode cL_law 1370 = .ok (.idiv, 1) := by decide +kernel
theorem dL_law_1371 : decode cL_law 1371 = .ok (.iload 18, 2) := by decide +kernel
theorem dL_law_1373 : decode cL_law 1373 = .ok (.ifCond .eq 7, 3) := by decide +kernel
theorem dL_law_1376 : decode cL_law 1376 = .ok (.iconst 2, 1) := by decide +kernel
theorem dL_law_1377 : decode cL_law 1377 = .ok (.goto 4, 3) := by decide +kernel
theorem dL_law_1380 : decode cL_law 1380 = .ok (.iconst 1, 1) := by decide +kernel
theorem dL_law_1381 : decode cL_law 1381 = .ok (.imul, 1) := by decide +kernel
theorem dL_law_1382 : decode cL_law 1382 = .ok (.if_icmp .eq 5, 3) := by decide +kernel
theorem dL_law_1385 : decode cL_law 1385 = .ok (.iconst 0, 1) := by decide +kernel
theorem dL_law_1386 : decode cL_law 1386 = .ok (.ireturn, 1) := by decide +kernel
theorem dL_law_1387 : decode cL_law 1387 = .ok (.iinc 27 1, 3) := by decide +kernel
theorem dL_law_1390 : decode cL_law 1390 = .ok (.goto (-54), 3) := by decide +kernel
theorem dL_law_1393 : decode cL_law 1393 = .ok (.iinc 3 1, 3) := by decide +kernel
theorem dL_law_1396 : decode cL_law 1396 = .ok (.goto (-1374), 3) := by decide +kernel
theorem dL_law_1399 : decode cL_law 1399 = .ok (.aload_n 2, 1) := by decide +kernel
theorem dL_law_1400 : decode cL_law 1400 = .ok (.aload_n 1, 1) := by decide +kernel
theorem dL_law_1401 : decode cL_law 1401 = .ok (.invokevirtual 140, 3) := by decide +kernel
theorem dL_law_1404 : decode cL_law 1404 = .ok (.ireturn, 1) := by decide +kernel

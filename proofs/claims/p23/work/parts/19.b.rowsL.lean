set_option maxRecDepth 20000 in
theorem ggL_build_X7_init : GoodIn wsL_build wsX7_init := goodIn_r _ [7, 8, 9, 10, 11, 12, 13, 14, 15, 16, 416, 417, 418, 419, 420, 421] (by decide +kernel) (by decide +kernel)
set_option maxRecDepth 20000 in
theorem gL_build_X7_init_n81 : GoodIn wsL_build (wsX7_init) := ggL_build_X7_init
set_option maxRecDepth 20000 in
theorem ggL_build_L_cell : GoodIn wsL_build wsL_cell := goodIn_r _ [20, 21] (by decide +kernel) (by decide +kernel)
set_option maxRecDepth 20000 in
theorem gL_build_L_cell : GoodIn wsL_build (va_wsS RL 82 yL_cell wsL_cell) := goodIn_app (goodIn_of _ (by decide +kernel)) ggL_build_L_cell
set_option maxRecDepth 20000 in
theorem ggL_build_L_below : GoodIn wsL_build wsL_below := goodIn_r _ [24, 25] (by decide +kernel) (by decide +kernel)
set_option maxRecDepth 20000 in
theorem gL_build_L_below : GoodIn wsL_build (va_wsS RL 9 yL_below wsL_below) := goodIn_app (goodIn_of _ (by decide +kernel)) ggL_build_L_below
set_option maxRecDepth 20000 in
theorem ggL_build_L_act_h : GoodIn wsL_build [.codeWith yL_act cL_act 12 (some .boolean) [(214, 227, 230, 31), (329, 338, 341, 31), (419, 428, 431, 31), (563, 572, 575, 31), (672, 681, 684, 31), (821, 829, 832, 31), (919, 932, 935, 31), (1020, 1030, 1033, 31)]] := goodIn_sub (List.forall_mem_cons.mpr ⟨List.mem_of_getElem? (i := 28) rfl, fun _ h => absurd h List.not_mem_nil⟩) (by decide +kernel)
set_option maxRecDepth 20000 in
theorem ggL_build_L_act_0 : GoodIn wsL_build wsL_act_r1 := goodIn_r _ [29, 30, 31, 4, 32, 33, 34, 22, 23, 19, 24, 25, 35, 36, 37, 38, 39, 40, 41, 42, 43, 44, 45, 46] (by decide +kernel) (by decide +kernel)
set_option maxRecDepth 20000 in
theorem ggL_build_L_act_1 : GoodIn wsL_build wsL_act_r2 := goodIn_r _ [47, 48, 49, 50, 51, 52, 53, 54, 55, 56, 57, 58, 59, 60, 61, 62, 63, 64, 65, 66, 67, 68, 69, 70] (by decide +kernel) (by decide +kernel)
set_option maxRecDepth 20000 in
theorem ggL_build_L_act_2 : GoodIn wsL_build wsL_act_r3 := goodIn_r _ [71, 72, 73, 74, 75, 76, 77, 78, 79, 80, 81, 82, 83, 84, 85, 86, 87, 88, 89, 90, 91, 92, 93, 94] (by decide +kernel) (by decide +kernel)
set_option maxRecDepth 20000 in
theorem ggL_build_L_act_3 : GoodIn wsL_build wsL_act_r4 := goodIn_r _ [95, 96, 97, 98, 99, 100, 101, 102, 103, 104, 105, 106, 107, 108, 109, 110, 111, 112, 113, 114, 115, 116, 117, 118] (by decide +kernel) (by decide +kernel)
set_option maxRecDepth 20000 in
theorem ggL_build_L_act_4 : GoodIn wsL_build wsL_act_r5 := goodIn_r _ [119, 120, 121, 122, 123, 124, 125, 126, 127, 128, 129, 130, 131, 132, 133, 134, 135, 136, 137, 138, 139, 140, 141, 142] (by decide +kernel) (by decide +kernel)
set_option maxRecDepth 20000 in
theorem ggL_build_L_act_5 : GoodIn wsL_build wsL_act_r6 := goodIn_r _ [143, 144, 145, 3, 146, 147, 148, 12, 149, 150, 151, 152, 153, 154, 155, 156, 157, 158, 159, 160, 161, 162, 163, 164] (by decide +kernel) (by decide +kernel)
set_option maxRecDepth 20000 in
theorem ggL_build_L_act_6 : GoodIn wsL_build wsL_act_r7 := goodIn_r _ [165, 166, 167, 168, 169, 170, 171, 172, 173, 174, 175, 176, 177, 178, 179, 180, 181, 182, 183, 184, 185, 186, 187, 188] (by decide +kernel) (by decide +kernel)
set_option maxRecDepth 20000 in
theorem ggL_build_L_act_7 : GoodIn wsL_build wsL_act_r8 := goodIn_r _ [189, 190, 191, 192, 193, 194, 195, 196, 197, 198, 199, 200, 201, 202, 203, 204, 205, 206, 207, 208, 209, 210, 211, 212] (by decide +kernel) (by decide +kernel)
set_option maxRecDepth 20000 in
theorem ggL_build_L_act_8 : GoodIn wsL_build wsL_act_r9 := goodIn_r _ [213, 214, 13, 215, 216, 217, 218, 219, 220, 221, 222, 223, 224, 225, 226, 227, 228, 229, 230, 231, 232, 233, 234, 235] (by decide +kernel) (by decide +kernel)
set_option maxRecDepth 20000 in
theorem ggL_build_L_act_9 : GoodIn wsL_build wsL_act_r10 := goodIn_r _ [236, 237, 238, 239, 240, 241, 242, 243, 244, 245, 246, 247, 248, 249, 250, 251, 252, 253, 254, 255, 256, 257, 258, 259] (by decide +kernel) (by decide +kernel)
set_option maxRecDepth 20000 in
theorem ggL_build_L_act_10 : GoodIn wsL_build wsL_act_r11 := goodIn_r _ [260, 261, 262, 263, 264, 265, 266, 267, 268, 269, 270, 271, 272, 273, 274, 275, 276, 277, 278, 279, 280, 281, 282, 283] (by decide +kernel) (by decide +kernel)
set_option maxRecDepth 20000 in
theorem ggL_build_L_act_11 : GoodIn wsL_build wsL_act_r12 := goodIn_r _ [284, 285, 286, 287, 288, 289, 290, 291, 292, 293, 294] (by decide +kernel) (by decide +kernel)
set_option maxRecDepth 20000 in
theorem ggL_build_L_act_wsX70 : GoodIn wsL_build wsX70 := goodIn_r _ [416, 417, 418, 419, 420, 421] (by decide +kernel) (by decide +kernel)
set_option maxRecDepth 20000 in
theorem ggL_build_L_act_wsX60 : GoodIn wsL_build wsX60 := goodIn_r _ [422, 423, 424, 425, 426, 427, 428] (by decide +kernel) (by decide +kernel)
set_option maxRecDepth 20000 in
theorem ggL_build_L_act_wsX00 : GoodIn wsL_build wsX00 := goodIn_r _ [429, 430, 431, 432] (by decide +kernel) (by decide +kernel)
set_option maxRecDepth 20000 in
theorem ggL_build_L_act_wsX10 : GoodIn wsL_build wsX10 := goodIn_r _ [433, 434, 435, 436, 437, 438, 439, 440, 441] (by decide +kernel) (by decide +kernel)
set_option maxRecDepth 20000 in
theorem ggL_build_L_act_wsX40 : GoodIn wsL_build wsX40 := goodIn_r _ [442, 443, 444] (by decide +kernel) (by decide +kernel)
set_option maxRecDepth 20000 in
theorem ggL_build_L_act_wsX20 : GoodIn wsL_build wsX20 := goodIn_r _ [445, 446, 447] (by decide +kernel) (by decide +kernel)
set_option maxRecDepth 20000 in
theorem ggL_build_L_act_wsX30 : GoodIn wsL_build wsX30 := goodIn_r _ [448, 449] (by decide +kernel) (by decide +kernel)
set_option maxRecDepth 20000 in
theorem ggL_build_L_act : GoodIn wsL_build wsL_act := goodIn_ca (goodIn_ca (goodIn_ca (goodIn_cons ggL_build_L_act_h (goodIn_app (goodIn_app (goodIn_app (goodIn_app (goodIn_app (goodIn_app (goodIn_app (goodIn_app ggL_build_L_act_0 (goodIn_app ggL_build_L_act_1 (goodIn_app ggL_build_L_act_2 (goodIn_app ggL_build_L_act_3 (goodIn_app ggL_build_L_act_4 (goodIn_app ggL_build_L_act_5 (goodIn_app ggL_build_L_act_6 (goodIn_app ggL_build_L_act_7 (goodIn_app ggL_build_L_act_8 (goodIn_app ggL_build_L_act_9 (goodIn_app ggL_build_L_act_10 ggL_build_L_act_11))))))))))) ggL_build_L_act_wsX70) ggL_build_L_act_wsX60) ggL_build_L_act_wsX00) ggL_build_L_act_wsX10) ggL_build_L_act_wsX40) ggL_build_L_act_wsX20) ggL_build_L_act_wsX30)) (goodIn_sub (fun _ h => List.mem_cons_of_mem _ (List.mem_append_left _ (List.mem_append_left _ (List.mem_append_right _ h)))) (by decide +kernel))) (goodIn_sub (fun _ h => List.mem_cons_of_mem _ (List.mem_append_left _ (List.mem_append_right _ h))) (by decide +kernel))) (goodIn_sub (fun _ h => List.mem_cons_of_mem _ (List.mem_append_right _ h)) (by decide +kernel))
set_option maxRecDepth 20000 in
theorem gL_build_L_act : GoodIn wsL_build (va_wsS RL 87 yL_act wsL_act) := goodIn_app (goodIn_of _ (by decide +kernel)) ggL_build_L_act
set_option maxRecDepth 20000 in
theorem ggL_build_X6_pass_h : GoodIn wsL_build [.code yX6_pass cX6_pass 2 (some .int)] := goodIn_sub (List.forall_mem_cons.mpr ⟨List.mem_of_getElem? (i := 298) rfl, fun _ h => absurd h List.not_mem_nil⟩) (by decide +kernel)
set_option maxRecDepth 20000 in
theorem ggL_build_X6_pass_0 : GoodIn wsL_build wsX6_pass_r1 := goodIn_r _ [41, 299, 300, 301, 38, 302, 57, 58, 303, 304, 305, 306, 42, 307, 308, 309, 310, 311, 184, 185, 40, 223, 224, 225] (by decide +kernel) (by decide +kernel)
set_option maxRecDepth 20000 in
theorem ggL_build_X6_pass_1 : GoodIn wsL_build wsX6_pass_r2 := goodIn_r _ [190, 226, 194, 227, 228, 229, 230, 192, 235, 236, 237, 238, 193, 312, 313, 314, 51, 315, 316, 317, 318, 319, 117, 139] (by decide +kernel) (by decide +kernel)
set_option maxRecDepth 20000 in
theorem ggL_build_X6_pass_2 : GoodIn wsL_build wsX6_pass_r3 := goodIn_r _ [140, 141, 142, 106, 77, 78, 79, 320, 136, 137, 138, 116, 239, 240, 241, 198, 242, 200, 195, 196, 197, 199, 201, 202] (by decide +kernel) (by decide +kernel)
set_option maxRecDepth 20000 in
theorem ggL_build_X6_pass_3 : GoodIn wsL_build wsX6_pass_r4 := goodIn_r _ [203, 204, 205, 206, 207, 321, 322, 323, 324, 262, 263, 325, 326, 327, 328, 329, 283, 284, 285, 271, 286, 274, 287, 288] (by decide +kernel) (by decide +kernel)
set_option maxRecDepth 20000 in
theorem ggL_build_X6_pass_4 : GoodIn wsL_build wsX6_pass_r5 := goodIn_r _ [289, 290, 273, 330, 331, 332, 333, 334, 247, 335, 336, 337, 338, 339, 340, 341, 342, 343, 344, 345, 346, 347, 348, 253] (by decide +kernel) (by decide +kernel)
set_option maxRecDepth 20000 in
theorem ggL_build_X6_pass_5 : GoodIn wsL_build wsX6_pass_r6 := goodIn_r _ [349, 257, 350, 351, 352, 353, 255, 354, 355, 356, 357, 256, 358, 125, 126, 127, 128, 129, 130, 131, 132, 133, 50, 52] (by decide +kernel) (by decide +kernel)
set_option maxRecDepth 20000 in
theorem ggL_build_X6_pass_6 : GoodIn wsL_build wsX6_pass_r7 := goodIn_r _ [134, 60, 61, 359, 360, 361, 362, 72, 73, 74, 75, 76, 363, 364, 365, 366, 367, 368, 369, 370, 371, 372, 92, 168] (by decide +kernel) (by decide +kernel)
set_option maxRecDepth 20000 in
theorem ggL_build_X6_pass_7 : GoodIn wsL_build wsX6_pass_r8 := goodIn_r _ [169, 170, 171, 93, 373, 374, 375, 376, 377, 378, 379, 380, 381, 382, 383, 384, 385, 386, 387, 388, 389, 390, 391, 392] (by decide +kernel) (by decide +kernel)
set_option maxRecDepth 20000 in
theorem ggL_build_X6_pass_8 : GoodIn wsL_build wsX6_pass_r9 := goodIn_r _ [393, 394, 395] (by decide +kernel) (by decide +kernel)
set_option maxRecDepth 20000 in
theorem ggL_build_X6_pass_wsX60 : GoodIn wsL_build wsX60 := goodIn_r _ [422, 423, 424, 425, 426, 427, 428] (by decide +kernel) (by decide +kernel)
set_option maxRecDepth 20000 in
theorem ggL_build_X6_pass_wsX00 : GoodIn wsL_build wsX00 := goodIn_r _ [429, 430, 431, 432] (by decide +kernel) (by decide +kernel)
set_option maxRecDepth 20000 in
theorem ggL_build_X6_pass_wsX40 : GoodIn wsL_build wsX40 := goodIn_r _ [442, 443, 444] (by decide +kernel) (by decide +kernel)
set_option maxRecDepth 20000 in
theorem ggL_build_X6_pass_wsX10 : GoodIn wsL_build wsX10 := goodIn_r _ [433, 434, 435, 436, 437, 438, 439, 440, 441] (by decide +kernel) (by decide +kernel)
set_option maxRecDepth 20000 in
theorem ggL_build_X6_pass_wsX30 : GoodIn wsL_build wsX30 := goodIn_r _ [448, 449] (by decide +kernel) (by decide +kernel)
set_option maxRecDepth 20000 in
theorem ggL_build_X6_pass_wsX50 : GoodIn wsL_build wsX50 := goodIn_r _ [450, 451, 452, 453, 454] (by decide +kernel) (by decide +kernel)
set_option maxRecDepth 20000 in
theorem ggL_build_X6_pass_wsX20 : GoodIn wsL_build wsX20 := goodIn_r _ [445, 446, 447] (by decide +kernel) (by decide +kernel)
set_option maxRecDepth 20000 in
theorem ggL_build_X6_pass : GoodIn wsL_build wsX6_pass := goodIn_ca (goodIn_cons ggL_build_X6_pass_h (goodIn_app (goodIn_app (goodIn_app (goodIn_app (goodIn_app (goodIn_app (goodIn_app (goodIn_app ggL_build_X6_pass_0 (goodIn_app ggL_build_X6_pass_1 (goodIn_app ggL_build_X6_pass_2 (goodIn_app ggL_build_X6_pass_3 (goodIn_app ggL_build_X6_pass_4 (goodIn_app ggL_build_X6_pass_5 (goodIn_app ggL_build_X6_pass_6 (goodIn_app ggL_build_X6_pass_7 ggL_build_X6_pass_8)))))))) ggL_build_X6_pass_wsX60) ggL_build_X6_pass_wsX00) ggL_build_X6_pass_wsX40) ggL_build_X6_pass_wsX10) ggL_build_X6_pass_wsX30) ggL_build_X6_pass_wsX50) ggL_build_X6_pass_wsX20)) (goodIn_sub (fun _ h => List.mem_cons_of_mem _ (List.mem_append_left _ (List.mem_append_right _ h))) (by decide +kernel))
set_option maxRecDepth 20000 in
theorem gL_build_X6_pass : GoodIn wsL_build (wsV RL 91 RX6 yX6_pass wsX6_pass) := goodIn_app (goodIn_of _ (by decide +kernel)) ggL_build_X6_pass
set_option maxRecDepth 20000 in
theorem ggL_build_X7_pass : GoodIn wsL_build wsX7_pass := goodIn_r _ [399, 14, 16, 15, 400, 11, 401, 144, 145, 3, 146, 147, 148, 12, 402, 403, 404, 405, 406, 150, 151, 407, 408, 409, 410, 411, 412, 413, 414, 13, 4, 415, 213, 214, 416, 417, 418, 419, 420, 421] (by decide +kernel) (by decide +kernel)
set_option maxRecDepth 20000 in
theorem gL_build_X7_pass : GoodIn wsL_build (wsV RL 94 RX7 yX7_pass wsX7_pass) := goodIn_app (goodIn_of _ (by decide +kernel)) ggL_build_X7_pass
theorem dL_build_0 : decode cL_build 0 = .ok (.new 16, 3) := by decide +kernel
theorem dL_build_3 : decode cL_build 3 = .ok (.dup, 1) := by decide +kernel
theorem dL_build_4 : decode cL_build 4 = .ok (.invokespecial 81, 3) := by decide +kernel
theorem dL_build_7 : decode cL_build 7 = .ok (.astore_n 2, 1) := by decide +kernel
theorem dL_build_8 : decode cL_build 8 = .ok (.bipush 12, 2) := by decide +kernel
theorem dL_build_10 : decode cL_build 10 = .ok (.newarray .int, 2) := by decide +kernel
theorem dL_build_12 : decode cL_build 12 = .ok (.dup, 1) := by decide +kernel
theorem dL_build_13 : decode cL_build 13 = .ok (.iconst 0, 1) := by decide +kernel
theorem dL_build_14 : decode cL_build 14 = .ok (.iconst 2, 1) := by decide +kernel
theorem dL_build_15 : decode cL_build 15 = .ok (.iastore, 1) := by decide +kernel
theorem dL_build_16 : decode cL_build 16 = .ok (.dup, 1) := by decide +kernel
theorem dL_build_17 : decode cL_build 17 = .ok (.iconst 1, 1) := by decide +kernel
theorem dL_build_18 : decode cL_build 18 = .ok (.iconst 3, 1) := by decide +kernel
theorem dL_build_19 : decode cL_build 19 = .ok (.iastore, 1) := by decide +kernel
theorem dL_build_20 : decode cL_build 20 = .ok (.dup, 1) := by decide +kernel
theorem dL_build_21 : decode cL_build 21 = .ok (.iconst 2, 1) := by decide +kernel
theorem dL_build_22 : decode cL_build 22 = .ok (.iconst 0, 1) := by decide +kernel
theorem dL_build_23 : decode cL_build 23 = .ok (.iastore, 1) := by decide +kernel
theorem dL_build_24 : decode cL_build 24 = .ok (.dup, 1) := by decide +kernel
theorem dL_build_25 : decode cL_build 25 = .ok (.iconst 3, 1) := by decide +kernel
theorem dL_build_26 : decode cL_build 26 = .ok (.bipush 11, 2) := by decide +kernel
theorem dL_build_28 : decode cL_build 28 = .ok (.iastore, 1) := by decide +kernel
theorem dL_build_29 : decode cL_build 29 = .ok (.dup, 1) := by decide +kernel
theorem dL_build_30 : decode cL_build 30 = .ok (.iconst 4, 1) := by decide +kernel
theorem dL_build_31 : decode cL_build 31 = .ok (.bipush 13, 2) := by decide +kernel
theorem dL_build_33 : decode cL_build 33 = .ok (.iastore, 1) := by decide +kernel
theorem dL_build_34 : decode cL_build 34 = .ok (.dup, 1) := by decide +kernel
theorem dL_build_35 : decode cL_build 35 = .ok (.iconst 5, 1) := by decide +kernel
theorem dL_build_36 : decode cL_build 36 = .ok (.bipush 7, 2) := by decide +kernel
theorem dL_build_38 : decode cL_build 38 = .ok (.iastore, 1) := by decide +kernel
theorem dL_build_39 : decode cL_build 39 = .ok (.dup, 1) := by decide +kernel
theorem dL_build_40 : decode cL_build 40 = .ok (.bipush 6, 2) := by decide +kernel
theorem dL_build_42 : decode cL_build 42 = .ok (.iconst 1, 1) := by decide +kernel
theorem dL_build_43 : decode cL_build 43 = .ok (.iastore, 1) := by decide +kernel
theorem dL_build_44 : decode cL_build 44 = .ok (.dup, 1) := by decide +kernel
theorem dL_build_45 : decode cL_build 45 = .ok (.bipush 7, 2) := by decide +kernel
theorem dL_build_47 : decode cL_build 47 = .ok (.bipush 8, 2) := by decide +kernel
theorem dL_build_49 : decode cL_build 49 = .ok (.iastore, 1) := by decide +kernel
theorem dL_build_50 : decode cL_build 50 = .ok (.dup, 1) := by decide +kernel
theorem dL_build_51 : decode cL_build 51 = .ok (.bipush 8, 2) := by decide +kernel
theorem dL_build_53 : decode cL_build 53 = .ok (.bipush 12, 2) := by decide +kernel
theorem dL_build_55 : decode cL_build 55 = .ok (.iastore, 1) := by decide +kernel
theorem dL_build_56 : decode cL_build 56 = .ok (.dup, 1) := by decide +kernel
theorem dL_build_57 : decode cL_build 57 = .ok (.bipush 9, 2) := by decide +kernel
theorem dL_build_59 : decode cL_build 59 = .ok (.bipush 13, 2) := by decide +kernel
theorem dL_build_61 : decode cL_build 61 = .ok (.iastore, 1) := by decide +kernel
theorem dL_build_62 : decode cL_build 62 = .ok (.dup, 1) := by decide +kernel
theorem dL_build_63 : decode cL_build 63 = .ok (.bipush 10, 2) := by decide +kernel
theorem dL_build_65 : decode cL_build 65 = .ok (.iconst 2, 1) := by decide +kernel
theorem dL_build_66 : decode cL_build 66 = .ok (.iastore, 1) := by decide +kernel
theorem dL_build_67 : decode cL_build 67 = .ok (.dup, 1) := by decide +kernel
theorem dL_build_68 : decode cL_build 68 = .ok (.bipush 11, 2) := by decide +kernel
theorem dL_build_70 : decode cL_build 70 = .ok (.bipush 9, 2) := by decide +kernel
theorem dL_build_72 : decode cL_build 72 = .ok (.iastore, 1) := by decide +kernel
theorem dL_build_73 : decode cL_build 73 = .ok (.astore_n 3, 1) := by decide +kernel
theorem dL_build_74 : decode cL_build 74 = .ok (.iconst 0, 1) := by decide +kernel
theorem dL_build_75 : decode cL_build 75 = .ok (.istore 4, 2) := by decide +kernel
theorem dL_build_77 : decode cL_build 77 = .ok (.iload 4, 2) := by decide +kernel
theorem dL_build_79 : decode cL_build 79 = .ok (.bipush 44, 2) := by decide +kernel
theorem dL_build_81 : decode cL_build 81 = .ok (.if_icmp .ge 102, 3) := by decide +kernel
theorem dL_build_84 : decode cL_build 84 = .ok (.aload_n 1, 1) := by decide +kernel
theorem dL_build_85 : decode cL_build 85 = .ok (.iload 4, 2) := by decide +kernel
theorem dL_build_87 : decode cL_build 87 = .ok (.bipush 16, 2) := by decide +kernel
theorem dL_build_89 : decode cL_build 89 = .ok (.irem, 1) := by decide +kernel
theorem dL_build_90 : decode cL_build 90 = .ok (.invokestatic 82, 3) := by decide +kernel
theorem dL_build_93 : decode cL_build 93 = .ok (.iload 4, 2) := by decide +kernel
theorem dL_build_95 : decode cL_build 95 = .ok (.bipush 16, 2) := by decide +kernel
theorem dL_build_97 : decode cL_build 97 = .ok (.idiv, 1) := by decide +kernel
theorem dL_build_98 : decode cL_build 98 = .ok (.iconst 5, 1) := by decide +kernel
theorem dL_build_99 : decode cL_build 99 = .ok (.imul, 1) := by decide +kernel
theorem dL_build_100 : decode cL_build 100 = .ok (.ishr, 1) := by decide +kernel
theorem dL_build_101 : decode cL_build 101 = .ok (.bipush 61, 2) := by decide +kernel
theorem dL_build_103 : decode cL_build 103 = .ok (.iload 4, 2) := by decide +kernel
theorem dL_build_105 : decode cL_build 105 = .ok (.imul, 1) := by decide +kernel
theorem dL_build_106 : decode cL_build 106 = .ok (.iadd, 1) := by decide +kernel
theorem dL_build_107 : decode cL_build 107 = .ok (.istore 5, 2) := by decide +kernel
theorem dL_build_109 : decode cL_build 109 = .ok (.iload 4, 2) := by decide +kernel
theorem dL_build_111 : decode cL_build 111 = .ok (.bipush 12, 2) := by decide +kernel
theorem dL_build_113 : decode cL_build 113 = .ok (.if_icmp .ge 20, 3) := by decide +kernel
theorem dL_build_116 : decode cL_build 116 = .ok (.iload 5, 2) := by decide +kernel
theorem dL_build_118 : decode cL_build 118 = .ok (.ldc 86, 2) := by decide +kernel
theorem dL_build_120 : decode cL_build 120 = .ok (.invokestatic 9, 3) := by decide +kernel
theorem dL_build_123 : decode cL_build 123 = .ok (.bipush 15, 2) := by decide +kernel
theorem dL_build_125 : decode cL_build 125 = .ok (.imul, 1) := by decide +kernel
theorem dL_build_126 : decode cL_build 126 = .ok (.aload_n 3, 1) := by decide +kernel
theorem dL_build_127 : decode cL_build 127 = .ok (.iload 4, 2) := by decide +kernel
theorem dL_build_129 : decode cL_build 129 = .ok (.iaload, 1) := by decide +kernel
theorem dL_build_130 : decode cL_build 130 = .ok (.iadd, 1) := by decide +kernel
theorem dL_build_131 : decode cL_build 131 = .ok (.istore 5, 2) := by decide +kernel
theorem dL_build_133 : decode cL_build 133 = .ok (.aload_n 0, 1) := by decide +kernel
theorem dL_build_134 : decode cL_build 134 = .ok (.aload_n 2, 1) := by decide +kernel
theorem dL_build_135 : decode cL_build 135 = .ok (.iload 5, 2) := by decide +kernel
theorem dL_build_137 : decode cL_build 137 = .ok (.invokestatic 87, 3) := by decide +kernel
theorem dL_build_140 : decode cL_build 140 = .ok (.ifCond .ne 5, 3) := by decide +kernel
theorem dL_build_143 : decode cL_build 143 = .ok (.aconst_null, 1) := by decide +kernel
theorem dL_build_144 : decode cL_build 144 = .ok (.areturn, 1) := by decide +kernel
theorem dL_build_145 : decode cL_build 145 = .ok (.iload 4, 2) := by decide +kernel
theorem dL_build_147 : decode cL_build 147 = .ok (.bipush 9, 2) := by decide +kernel
theorem dL_build_149 : decode cL_build 149 = .ok (.if_icmp .le 28, 3) := by decide +kernel
theorem dL_build_152 : decode cL_build 152 = .ok (.iload 5, 2) := by decide +kernel
theorem dL_build_154 : decode cL_build 154 = .ok (.iconst 5, 1) := by decide +kernel
theorem dL_build_155 : decode cL_build 155 = .ok (.ishr, 1) := by decide +kernel
theorem dL_build_156 : decode cL_build 156 = .ok (.iconst 2, 1) := by decide +kernel
theorem dL_build_157 : decode cL_build 157 = .ok (.invokestatic 9, 3) := by decide +kernel
theorem dL_build_160 : decode cL_build 160 = .ok (.ifCond .ne 17, 3) := by decide +kernel
theorem dL_build_163 : decode cL_build 163 = .ok (.aload_n 0, 1) := by decide +kernel
theorem dL_build_164 : decode cL_build 164 = .ok (.iconst 1, 1) := by decide +kernel
theorem dL_build_165 : decode cL_build 165 = .ok (.invokevirtual 91, 3) := by decide +kernel
theorem dL_build_168 : decode cL_build 168 = .ok (.aload_n 2, 1) := by decide +kernel
theorem dL_build_169 : decode cL_build 169 = .ok (.invokevirtual 94, 3) := by decide +kernel
theorem dL_build_172 : decode cL_build 172 = .ok (.if_icmp .eq 5, 3) := by decide +kernel
theorem dL_build_175 : decode cL_build 175 = .ok (.aconst_null, 1) := by decide +kernel
theorem dL_build_176 : decode cL_build 176 = .ok (.areturn, 1) := by decide +kernel
theorem dL_build_177 : decode cL_build 177 = .ok (.iinc 4 1, 3) := by decide +kernel
theorem dL_build_180 : decode cL_build 180 = .ok (.goto (-103), 3) := by decide +kernel
theorem dL_build_183 : decode cL_build 183 = .ok (.aload_n 2, 1) := by decide +kernel
theorem dL_build_184 : decode cL_build 184 = .ok (.areturn, 1) := by decide +kernel

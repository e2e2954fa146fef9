set_option maxRecDepth 20000 in
theorem ggL_law_X6_init : GoodIn wsL_law wsX6_init := goodIn_r _ [19, 20, 21, 22, 23, 24, 25, 26, 27, 28, 29, 30, 31, 32, 33, 34, 35, 36, 37, 38, 39, 40, 41, 42, 43, 44, 45, 46, 47, 48, 49, 50, 51, 8, 52, 53, 54, 55, 56, 57, 58, 59, 60, 61, 62, 63, 64, 65, 9, 66, 67, 68, 69, 70, 71, 72, 73, 74, 75, 76, 77, 78, 79, 80, 81, 82, 83, 84, 85, 86, 87, 88, 89, 90, 91, 606, 607, 608, 609, 610, 611, 612, 613, 614, 593, 594, 595, 596, 597, 598, 599, 615, 616, 617, 618, 619, 620, 621, 622, 623, 624, 625, 626, 627, 628, 629, 630, 631] (by decide +kernel) (by decide +kernel)
set_option maxRecDepth 20000 in
theorem gL_law_X6_init : GoodIn wsL_law (wsX6_init) := ggL_law_X6_init
set_option maxRecDepth 20000 in
theorem ggL_law_L_build_h : GoodIn wsL_law [.code yL_build cL_build 6 (some (.object "MoonGateLaw$Sim"))] := goodIn_sub (List.forall_mem_cons.mpr ⟨List.mem_of_getElem? (i := 95) rfl, fun _ h => absurd h List.not_mem_nil⟩) (by decide +kernel)
set_option maxRecDepth 20000 in
theorem ggL_law_L_build_0 : GoodIn wsL_law wsL_build_r1 := goodIn_r _ [96, 97, 98, 8, 99, 100, 101, 102, 21, 22, 103, 104, 105, 106, 107, 108, 109, 110, 94, 111, 112, 113, 114, 115] (by decide +kernel) (by decide +kernel)
set_option maxRecDepth 20000 in
theorem ggL_law_L_build_1 : GoodIn wsL_law wsL_build_r2 := goodIn_sub (List.forall_mem_cons.mpr ⟨List.mem_of_getElem? (i := 116) rfl, List.forall_mem_cons.mpr ⟨List.mem_of_getElem? (i := 117) rfl, List.forall_mem_cons.mpr ⟨List.mem_of_getElem? (i := 118) rfl, List.forall_mem_cons.mpr ⟨List.mem_of_getElem? (i := 119) rfl, List.forall_mem_cons.mpr ⟨List.mem_of_getElem? (i := 120) rfl, List.forall_mem_cons.mpr ⟨List.mem_of_getElem? (i := 121) rfl, List.forall_mem_cons.mpr ⟨List.mem_of_getElem? (i := 122) rfl, List.forall_mem_cons.mpr ⟨List.mem_of_getElem? (i := 7) rfl, List.forall_mem_cons.mpr ⟨List.mem_of_getElem? (i := 123) rfl, List.forall_mem_cons.mpr ⟨List.mem_of_getElem? (i := 16) rfl, List.forall_mem_cons.mpr ⟨List.mem_of_getElem? (i := 124) rfl, List.forall_mem_cons.mpr ⟨List.mem_of_getElem? (i := 125) rfl, List.forall_mem_cons.mpr ⟨List.mem_of_getElem? (i := 126) rfl, List.forall_mem_cons.mpr ⟨List.mem_of_getElem? (i := 2) rfl, List.forall_mem_cons.mpr ⟨List.mem_of_getElem? (i := 127) rfl, List.forall_mem_cons.mpr ⟨List.mem_of_getElem? (i := 26) rfl, List.forall_mem_cons.mpr ⟨List.mem_of_getElem? (i := 42) rfl, List.forall_mem_cons.mpr ⟨List.mem_of_getElem? (i := 128) rfl, List.forall_mem_cons.mpr ⟨List.mem_of_getElem? (i := 129) rfl, List.forall_mem_cons.mpr ⟨List.mem_of_getElem? (i := 130) rfl, List.forall_mem_cons.mpr ⟨List.mem_of_getElem? (i := 131) rfl, List.forall_mem_cons.mpr ⟨List.mem_of_getElem? (i := 132) rfl, List.forall_mem_cons.mpr ⟨List.mem_of_getElem? (i := 133) rfl, List.forall_mem_cons.mpr ⟨List.mem_of_getElem? (i := 134) rfl, fun _ h => absurd h List.not_mem_nil⟩⟩⟩⟩⟩⟩⟩⟩⟩⟩⟩⟩⟩⟩⟩⟩⟩⟩⟩⟩⟩⟩⟩⟩) (by decide +kernel)
set_option maxRecDepth 20000 in
theorem ggL_law_L_build_2 : GoodIn wsL_law wsL_build_r3 := goodIn_r _ [135, 136, 25, 137, 138, 139, 140, 141, 142, 143, 144, 145, 146, 147, 148, 149, 150, 151, 152, 153, 154, 155, 156, 157] (by decide +kernel) (by decide +kernel)
set_option maxRecDepth 20000 in
theorem ggL_law_L_build_3 : GoodIn wsL_law wsL_build_r4 := goodIn_r _ [158, 159, 160, 52, 161, 162, 163, 164, 165, 166, 167, 168, 169, 170, 171, 172, 173, 174, 175, 53, 54, 176, 177, 178] (by decide +kernel) (by decide +kernel)
set_option maxRecDepth 20000 in
theorem ggL_law_L_build_4 : GoodIn wsL_law wsL_build_r5 := goodIn_r _ [179, 180, 181, 182, 183, 184, 185, 186, 187, 56, 60, 188, 189, 190, 191, 192, 193, 194, 195, 57, 58, 59, 55, 196] (by decide +kernel) (by decide +kernel)
set_option maxRecDepth 20000 in
theorem ggL_law_L_build_5 : GoodIn wsL_law wsL_build_r6 := goodIn_r _ [197, 198, 199, 200, 201, 202, 203, 204, 205, 206, 207, 208, 209, 210, 211, 212, 213, 214, 215, 216, 217, 218, 219, 220] (by decide +kernel) (by decide +kernel)
set_option maxRecDepth 20000 in
theorem ggL_law_L_build_6 : GoodIn wsL_law wsL_build_r7 := goodIn_r _ [221, 222, 223, 9, 224, 225, 226, 227, 228, 229, 230, 231, 232, 233, 234, 235, 236, 237, 238, 239, 240, 241, 242, 243] (by decide +kernel) (by decide +kernel)
set_option maxRecDepth 20000 in
theorem ggL_law_L_build_7 : GoodIn wsL_law wsL_build_r8 := goodIn_r _ [244, 245, 246, 247, 248, 249, 250, 251, 252, 253, 254, 255, 256, 257, 258, 30, 259, 260, 261, 262, 263, 29, 264, 67] (by decide +kernel) (by decide +kernel)
set_option maxRecDepth 20000 in
theorem ggL_law_L_build_8 : GoodIn wsL_law wsL_build_r9 := goodIn_r _ [65, 66, 265, 266, 267, 41, 268, 87, 269, 14, 5, 15, 270, 11, 12, 271, 272, 273, 274, 275, 276, 277, 278, 279] (by decide +kernel) (by decide +kernel)
set_option maxRecDepth 20000 in
theorem ggL_law_L_build_9 : GoodIn wsL_law wsL_build_r10 := goodIn_r _ [280, 281, 282, 283, 284, 285, 286, 287, 288, 289, 290, 291, 292, 293, 294, 295, 296, 297, 298, 299, 300, 301, 302, 303] (by decide +kernel) (by decide +kernel)
set_option maxRecDepth 20000 in
theorem ggL_law_L_build_10 : GoodIn wsL_law wsL_build_r11 := goodIn_r _ [304, 305, 306, 307, 308, 309, 34, 310, 311, 312, 313, 314, 33, 315, 74, 72, 73, 316, 317, 318, 319, 38, 320, 321] (by decide +kernel) (by decide +kernel)
set_option maxRecDepth 20000 in
theorem ggL_law_L_build_11 : GoodIn wsL_law wsL_build_r12 := goodIn_r _ [322, 323, 324, 325, 326, 327, 37, 328, 80, 79, 329, 330, 331, 332, 333, 334, 335, 336, 337, 338, 339, 340, 341, 342] (by decide +kernel) (by decide +kernel)
set_option maxRecDepth 20000 in
theorem ggL_law_L_build_12 : GoodIn wsL_law wsL_build_r13 := goodIn_r _ [343, 344, 345, 346, 347, 348, 349, 350, 351, 352, 353, 354, 355, 356, 357, 358, 359, 360, 361, 362, 363, 364, 365, 366] (by decide +kernel) (by decide +kernel)
set_option maxRecDepth 20000 in
theorem ggL_law_L_build_13 : GoodIn wsL_law wsL_build_r14 := goodIn_r _ [367, 368, 369, 370, 371, 372, 373, 374, 375, 376, 377, 378, 379, 380, 381, 382, 85, 383, 384, 385, 386, 47, 387, 388] (by decide +kernel) (by decide +kernel)
set_option maxRecDepth 20000 in
theorem ggL_law_L_build_14 : GoodIn wsL_law wsL_build_r15 := goodIn_r _ [389, 390, 46, 391, 392, 393, 394, 395, 396, 397, 398, 399, 400, 401, 402, 403, 404, 405, 406, 407, 408, 409, 410, 411] (by decide +kernel) (by decide +kernel)
set_option maxRecDepth 20000 in
theorem ggL_law_L_build_15 : GoodIn wsL_law wsL_build_r16 := goodIn_r _ [412, 413, 414, 415, 416, 417, 418, 419, 420, 421, 422, 423, 424, 425, 426, 427, 428, 429, 430, 431, 432, 433, 434, 435] (by decide +kernel) (by decide +kernel)
set_option maxRecDepth 20000 in
theorem ggL_law_L_build_16 : GoodIn wsL_law wsL_build_r17 := goodIn_r _ [436, 437, 438, 439, 440, 441, 442, 443, 444, 445, 88, 446, 447, 448, 449, 450, 451, 452, 453, 454, 455, 456, 457, 458] (by decide +kernel) (by decide +kernel)
set_option maxRecDepth 20000 in
theorem ggL_law_L_build_17 : GoodIn wsL_law wsL_build_r18 := goodIn_r _ [459, 460, 461, 462, 463, 464, 465] (by decide +kernel) (by decide +kernel)
set_option maxRecDepth 20000 in
theorem ggL_law_L_build_wsX70 : GoodIn wsL_law wsX70 := goodIn_r _ [600, 601, 602, 603, 604, 605] (by decide +kernel) (by decide +kernel)
set_option maxRecDepth 20000 in
theorem ggL_law_L_build_wsX60 : GoodIn wsL_law wsX60 := goodIn_r _ [593, 594, 595, 596, 597, 598, 599] (by decide +kernel) (by decide +kernel)
set_option maxRecDepth 20000 in
theorem ggL_law_L_build_wsX00 : GoodIn wsL_law wsX00 := goodIn_r _ [623, 624, 625, 626] (by decide +kernel) (by decide +kernel)
set_option maxRecDepth 20000 in
theorem ggL_law_L_build_wsX10 : GoodIn wsL_law wsX10 := goodIn_r _ [606, 607, 608, 609, 610, 611, 612, 613, 614] (by decide +kernel) (by decide +kernel)
set_option maxRecDepth 20000 in
theorem ggL_law_L_build_wsX40 : GoodIn wsL_law wsX40 := goodIn_r _ [615, 616, 617] (by decide +kernel) (by decide +kernel)
set_option maxRecDepth 20000 in
theorem ggL_law_L_build_wsX20 : GoodIn wsL_law wsX20 := goodIn_r _ [618, 619, 620] (by decide +kernel) (by decide +kernel)
set_option maxRecDepth 20000 in
theorem ggL_law_L_build_wsX30 : GoodIn wsL_law wsX30 := goodIn_r _ [621, 622] (by decide +kernel) (by decide +kernel)
set_option maxRecDepth 20000 in
theorem ggL_law_L_build_wsX50 : GoodIn wsL_law wsX50 := goodIn_r _ [627, 628, 629, 630, 631] (by decide +kernel) (by decide +kernel)
set_option maxRecDepth 20000 in
theorem ggL_law_L_build : GoodIn wsL_law wsL_build := goodIn_ca (goodIn_ca (goodIn_ca (goodIn_cons ggL_law_L_build_h (goodIn_app (goodIn_app (goodIn_app (goodIn_app (goodIn_app (goodIn_app (goodIn_app (goodIn_app (goodIn_app ggL_law_L_build_0 (goodIn_app ggL_law_L_build_1 (goodIn_app ggL_law_L_build_2 (goodIn_app ggL_law_L_build_3 (goodIn_app ggL_law_L_build_4 (goodIn_app ggL_law_L_build_5 (goodIn_app ggL_law_L_build_6 (goodIn_app ggL_law_L_build_7 (goodIn_app ggL_law_L_build_8 (goodIn_app ggL_law_L_build_9 (goodIn_app ggL_law_L_build_10 (goodIn_app ggL_law_L_build_11 (goodIn_app ggL_law_L_build_12 (goodIn_app ggL_law_L_build_13 (goodIn_app ggL_law_L_build_14 (goodIn_app ggL_law_L_build_15 (goodIn_app ggL_law_L_build_16 ggL_law_L_build_17))))))))))))))))) ggL_law_L_build_wsX70) ggL_law_L_build_wsX60) ggL_law_L_build_wsX00) ggL_law_L_build_wsX10) ggL_law_L_build_wsX40) ggL_law_L_build_wsX20) ggL_law_L_build_wsX30) ggL_law_L_build_wsX50)) (goodIn_sub (fun _ h => List.mem_append_left _ (List.mem_append_left _ (List.mem_append_right _ h))) (by decide +kernel))) (goodIn_sub (fun _ h => List.mem_append_left _ (List.mem_append_right _ h)) (by decide +kernel))) (goodIn_sub (fun _ h => List.mem_append_right _ h) (by decide +kernel))
set_option maxRecDepth 20000 in
theorem gL_law_L_build : GoodIn wsL_law (va_wsS RL 98 yL_build wsL_build) := goodIn_app (goodIn_of _ (by decide +kernel)) ggL_law_L_build
set_option maxRecDepth 20000 in
theorem ggL_law_L_cell : GoodIn wsL_law wsL_cell := goodIn_r _ [111, 112] (by decide +kernel) (by decide +kernel)
set_option maxRecDepth 20000 in
theorem gL_law_L_cell : GoodIn wsL_law (va_wsS RL 82 yL_cell wsL_cell) := goodIn_app (goodIn_of _ (by decide +kernel)) ggL_law_L_cell
set_option maxRecDepth 20000 in
theorem ggL_law_X6_count : GoodIn wsL_law wsX6_count := goodIn_ca (goodIn_r _ [469, 42, 361, 26, 470, 30, 34, 310, 38, 320, 471, 472, 473, 2, 474, 133, 134, 379, 380, 381, 41, 382, 85, 475, 476, 477, 25, 478, 52, 479, 480, 481, 29, 482, 67, 483, 287, 288, 289, 66, 290, 291, 292, 293, 484, 485, 486, 487, 128, 488, 489, 490, 491, 432, 303, 304, 305, 87, 492, 493, 494, 495, 88, 593, 594, 595, 596, 597, 598, 599, 623, 624, 625, 626, 606, 607, 608, 609, 610, 611, 612, 613, 614, 618, 619, 620, 621, 622, 615, 616, 617] (by decide +kernel) (by decide +kernel)) (goodIn_sub (fun _ h => List.mem_append_left _ (List.mem_append_left _ (List.mem_append_right _ h))) (by decide +kernel))
set_option maxRecDepth 20000 in
theorem gL_law_X6_count : GoodIn wsL_law (wsV RL 102 RX6 yX6_count wsX6_count) := goodIn_app (goodIn_of _ (by decide +kernel)) ggL_law_X6_count
set_option maxRecDepth 20000 in
theorem ggL_law_L_act_h : GoodIn wsL_law [.codeWith yL_act cL_act 12 (some .boolean) [(214, 227, 230, 31), (329, 338, 341, 31), (419, 428, 431, 31), (563, 572, 575, 31), (672, 681, 684, 31), (821, 829, 832, 31), (919, 932, 935, 31), (1020, 1030, 1033, 31)]] := goodIn_sub (List.forall_mem_cons.mpr ⟨List.mem_of_getElem? (i := 119) rfl, fun _ h => absurd h List.not_mem_nil⟩) (by decide +kernel)
set_option maxRecDepth 20000 in
theorem ggL_law_L_act_0 : GoodIn wsL_law wsL_act_r1 := goodIn_r _ [120, 121, 122, 8, 7, 123, 16, 113, 114, 94, 115, 116, 124, 125, 126, 2, 127, 26, 42, 128, 129, 130, 131, 132] (by decide +kernel) (by decide +kernel)
set_option maxRecDepth 20000 in
theorem ggL_law_L_act_1 : GoodIn wsL_law wsL_act_r2 := goodIn_r _ [133, 134, 135, 136, 25, 137, 138, 139, 140, 141, 142, 143, 144, 145, 146, 147, 148, 149, 150, 151, 152, 153, 154, 155] (by decide +kernel) (by decide +kernel)
set_option maxRecDepth 20000 in
theorem ggL_law_L_act_2 : GoodIn wsL_law wsL_act_r3 := goodIn_r _ [156, 157, 158, 159, 160, 52, 161, 162, 163, 164, 165, 166, 167, 168, 169, 170, 171, 172, 173, 174, 175, 53, 54, 176] (by decide +kernel) (by decide +kernel)
set_option maxRecDepth 20000 in
theorem ggL_law_L_act_3 : GoodIn wsL_law wsL_act_r4 := goodIn_r _ [177, 178, 179, 180, 181, 182, 183, 184, 185, 186, 187, 56, 60, 188, 189, 190, 191, 192, 193, 194, 195, 57, 58, 59] (by decide +kernel) (by decide +kernel)
set_option maxRecDepth 20000 in
theorem ggL_law_L_act_4 : GoodIn wsL_law wsL_act_r5 := goodIn_r _ [55, 196, 197, 198, 199, 200, 201, 202, 203, 204, 205, 206, 207, 208, 209, 210, 211, 212, 213, 214, 215, 216, 217, 218] (by decide +kernel) (by decide +kernel)
set_option maxRecDepth 20000 in
theorem ggL_law_L_act_5 : GoodIn wsL_law wsL_act_r6 := goodIn_r _ [219, 220, 221, 98, 222, 223, 9, 104, 224, 225, 226, 227, 228, 229, 230, 231, 232, 233, 234, 235, 236, 237, 238, 239] (by decide +kernel) (by decide +kernel)
set_option maxRecDepth 20000 in
theorem ggL_law_L_act_6 : GoodIn wsL_law wsL_act_r7 := goodIn_r _ [240, 241, 242, 243, 244, 245, 246, 247, 248, 249, 250, 251, 252, 253, 254, 255, 256, 257, 258, 30, 259, 260, 261, 262] (by decide +kernel) (by decide +kernel)
set_option maxRecDepth 20000 in
theorem ggL_law_L_act_7 : GoodIn wsL_law wsL_act_r8 := goodIn_r _ [263, 29, 264, 67, 65, 66, 265, 266, 267, 41, 268, 87, 269, 14, 5, 15, 270, 11, 12, 271, 272, 273, 274, 275] (by decide +kernel) (by decide +kernel)
set_option maxRecDepth 20000 in
theorem ggL_law_L_act_8 : GoodIn wsL_law wsL_act_r9 := goodIn_r _ [276, 277, 105, 278, 279, 280, 281, 282, 283, 284, 285, 286, 287, 288, 289, 290, 291, 292, 293, 294, 295, 296, 297, 298] (by decide +kernel) (by decide +kernel)
set_option maxRecDepth 20000 in
theorem ggL_law_L_act_9 : GoodIn wsL_law wsL_act_r10 := goodIn_r _ [299, 300, 301, 302, 303, 304, 305, 306, 307, 308, 309, 34, 310, 311, 312, 313, 314, 33, 315, 74, 72, 73, 316, 317] (by decide +kernel) (by decide +kernel)
set_option maxRecDepth 20000 in
theorem ggL_law_L_act_10 : GoodIn wsL_law wsL_act_r11 := goodIn_r _ [318, 319, 38, 320, 321, 322, 323, 324, 325, 326, 327, 37, 328, 80, 79, 329, 330, 331, 332, 333, 334, 335, 336, 337] (by decide +kernel) (by decide +kernel)
set_option maxRecDepth 20000 in
theorem ggL_law_L_act_11 : GoodIn wsL_law wsL_act_r12 := goodIn_r _ [338, 339, 340, 341, 342, 343, 344, 345, 346, 347, 348] (by decide +kernel) (by decide +kernel)
set_option maxRecDepth 20000 in
theorem ggL_law_L_act_wsX70 : GoodIn wsL_law wsX70 := goodIn_r _ [600, 601, 602, 603, 604, 605] (by decide +kernel) (by decide +kernel)
set_option maxRecDepth 20000 in
theorem ggL_law_L_act_wsX60 : GoodIn wsL_law wsX60 := goodIn_r _ [593, 594, 595, 596, 597, 598, 599] (by decide +kernel) (by decide +kernel)
set_option maxRecDepth 20000 in
theorem ggL_law_L_act_wsX00 : GoodIn wsL_law wsX00 := goodIn_r _ [623, 624, 625, 626] (by decide +kernel) (by decide +kernel)
set_option maxRecDepth 20000 in
theorem ggL_law_L_act_wsX10 : GoodIn wsL_law wsX10 := goodIn_r _ [606, 607, 608, 609, 610, 611, 612, 613, 614] (by decide +kernel) (by decide +kernel)
set_option maxRecDepth 20000 in
theorem ggL_law_L_act_wsX40 : GoodIn wsL_law wsX40 := goodIn_r _ [615, 616, 617] (by decide +kernel) (by decide +kernel)
set_option maxRecDepth 20000 in
theorem ggL_law_L_act_wsX20 : GoodIn wsL_law wsX20 := goodIn_r _ [618, 619, 620] (by decide +kernel) (by decide +kernel)
set_option maxRecDepth 20000 in
theorem ggL_law_L_act_wsX30 : GoodIn wsL_law wsX30 := goodIn_r _ [621, 622] (by decide +kernel) (by decide +kernel)
set_option maxRecDepth 20000 in
theorem ggL_law_L_act : GoodIn wsL_law wsL_act := goodIn_ca (goodIn_ca (goodIn_ca (goodIn_cons ggL_law_L_act_h (goodIn_app (goodIn_app (goodIn_app (goodIn_app (goodIn_app (goodIn_app (goodIn_app (goodIn_app ggL_law_L_act_0 (goodIn_app ggL_law_L_act_1 (goodIn_app ggL_law_L_act_2 (goodIn_app ggL_law_L_act_3 (goodIn_app ggL_law_L_act_4 (goodIn_app ggL_law_L_act_5 (goodIn_app ggL_law_L_act_6 (goodIn_app ggL_law_L_act_7 (goodIn_app ggL_law_L_act_8 (goodIn_app ggL_law_L_act_9 (goodIn_app ggL_law_L_act_10 ggL_law_L_act_11))))))))))) ggL_law_L_act_wsX70) ggL_law_L_act_wsX60) ggL_law_L_act_wsX00) ggL_law_L_act_wsX10) ggL_law_L_act_wsX40) ggL_law_L_act_wsX20) ggL_law_L_act_wsX30)) (goodIn_sub (fun _ h => List.mem_append_left _ (List.mem_append_left _ (List.mem_append_right _ h))) (by decide +kernel))) (goodIn_sub (fun _ h => List.mem_append_left _ (List.mem_append_right _ h)) (by decide +kernel))) (goodIn_sub (fun _ h => List.mem_append_right _ h) (by decide +kernel))
set_option maxRecDepth 20000 in
theorem gL_law_L_act : GoodIn wsL_law (va_wsS RL 87 yL_act wsL_act) := goodIn_app (goodIn_of _ (by decide +kernel)) ggL_law_L_act
set_option maxRecDepth 20000 in
theorem ggL_law_X6_cell : GoodIn wsL_law wsX6_cell := goodIn_ca (goodIn_r _ [499, 26, 129, 130, 131, 2, 132, 133, 134, 135, 136, 25, 137, 471, 472, 473, 474, 144, 145, 146, 419, 158, 159, 160, 52, 161, 162, 163, 420, 421, 422, 423, 53, 243, 244, 245, 246, 54, 211, 212, 213, 214, 57, 215, 216, 217, 218, 56, 500, 371, 372, 373, 58, 593, 594, 595, 596, 597, 598, 599, 606, 607, 608, 609, 610, 611, 612, 613, 614] (by decide +kernel) (by decide +kernel)) (goodIn_sub (fun _ h => List.mem_append_left _ (List.mem_append_left _ (List.mem_append_right _ h))) (by decide +kernel))
set_option maxRecDepth 20000 in
theorem gL_law_X6_cell : GoodIn wsL_law (wsV RL 110 RX6 yX6_cell wsX6_cell) := goodIn_app (goodIn_of _ (by decide +kernel)) ggL_law_X6_cell
set_option maxRecDepth 20000 in
theorem ggL_law_X6_told : GoodIn wsL_law wsX6_told := goodIn_ca (goodIn_r _ [504, 30, 42, 282, 283, 284, 2, 285, 133, 134, 259, 471, 472, 473, 474, 298, 299, 300, 29, 301, 65, 290, 291, 292, 293, 67, 302, 303, 304, 41, 305, 87, 286, 287, 288, 289, 66, 505, 506, 507, 508, 593, 594, 595, 596, 597, 598, 599, 615, 616, 617, 623, 624, 625, 626] (by decide +kernel) (by decide +kernel)) (goodIn_sub (fun _ h => List.mem_append_left _ (List.mem_append_left _ (List.mem_append_right _ h))) (by decide +kernel))
set_option maxRecDepth 20000 in
theorem gL_law_X6_told : GoodIn wsL_law (wsV RL 112 RX6 yX6_told wsX6_told) := goodIn_app (goodIn_of _ (by decide +kernel)) ggL_law_X6_told
set_option maxRecDepth 20000 in
theorem ggL_law_X6_lines : GoodIn wsL_law wsX6_lines := goodIn_ca (goodIn_r _ [512, 42, 333, 334, 335, 2, 336, 133, 134, 38, 320, 513, 514, 515, 41, 516, 88, 593, 594, 595, 596, 597, 598, 599, 621, 622, 623, 624, 625, 626] (by decide +kernel) (by decide +kernel)) (goodIn_sub (fun _ h => List.mem_append_left _ (List.mem_append_left _ (List.mem_append_right _ h))) (by decide +kernel))
set_option maxRecDepth 20000 in
theorem gL_law_X6_lines : GoodIn wsL_law (wsV RL 115 RX6 yX6_lines wsX6_lines) := goodIn_app (goodIn_of _ (by decide +kernel)) ggL_law_X6_lines
set_option maxRecDepth 20000 in
theorem ggL_law_X6_about_h : GoodIn wsL_law [.code yX6_about cX6_about 3 (some .int)] := goodIn_sub (List.forall_mem_cons.mpr ⟨List.mem_of_getElem? (i := 520) rfl, fun _ h => absurd h List.not_mem_nil⟩) (by decide +kernel)
set_option maxRecDepth 20000 in
theorem ggL_law_X6_about_0 : GoodIn wsL_law wsX6_about_r1 := goodIn_r _ [42, 47, 418, 521, 522, 387, 38, 321, 322, 323, 2, 324, 133, 134, 34, 310, 471, 472, 473, 474, 383, 384, 385, 386] (by decide +kernel) (by decide +kernel)
set_option maxRecDepth 20000 in
theorem ggL_law_X6_about_1 : GoodIn wsL_law wsX6_about_r2 := goodIn_r _ [26, 388, 389, 390, 46, 391, 392, 393, 394, 395, 396, 397, 398, 399, 33, 400, 73, 401, 402, 403, 404, 74, 405, 406] (by decide +kernel) (by decide +kernel)
set_option maxRecDepth 20000 in
theorem ggL_law_X6_about_2 : GoodIn wsL_law wsX6_about_r3 := goodIn_r _ [407, 408, 72, 409, 201, 202, 25, 203, 204, 205, 161, 162, 163, 206, 207, 208, 209, 136, 137, 210, 145, 146, 410, 411] (by decide +kernel) (by decide +kernel)
set_option maxRecDepth 20000 in
theorem ggL_law_X6_about_3 : GoodIn wsL_law wsX6_about_r4 := goodIn_r _ [412, 413, 157, 158, 159, 160, 52, 414, 415, 416, 417, 30, 419, 420, 421, 422, 423, 53, 243, 244, 245, 246, 54, 424] (by decide +kernel) (by decide +kernel)
set_option maxRecDepth 20000 in
theorem ggL_law_X6_about_4 : GoodIn wsL_law wsX6_about_r5 := goodIn_r _ [425, 426, 427, 428, 429, 430, 29, 431, 67, 65, 66, 432, 303, 304, 41, 305, 87, 433, 434, 435, 436, 437, 438, 439] (by decide +kernel) (by decide +kernel)
set_option maxRecDepth 20000 in
theorem ggL_law_X6_about_5 : GoodIn wsL_law wsX6_about_r6 := goodIn_r _ [440, 441, 523, 524, 525, 37, 526, 80, 527, 338, 339, 340, 79, 341, 342, 343, 344] (by decide +kernel) (by decide +kernel)
set_option maxRecDepth 20000 in
theorem ggL_law_X6_about_wsX60 : GoodIn wsL_law wsX60 := goodIn_r _ [593, 594, 595, 596, 597, 598, 599] (by decide +kernel) (by decide +kernel)
set_option maxRecDepth 20000 in
theorem ggL_law_X6_about_wsX50 : GoodIn wsL_law wsX50 := goodIn_r _ [627, 628, 629, 630, 631] (by decide +kernel) (by decide +kernel)
set_option maxRecDepth 20000 in
theorem ggL_law_X6_about_wsX20 : GoodIn wsL_law wsX20 := goodIn_r _ [618, 619, 620] (by decide +kernel) (by decide +kernel)
set_option maxRecDepth 20000 in
theorem ggL_law_X6_about_wsX10 : GoodIn wsL_law wsX10 := goodIn_r _ [606, 607, 608, 609, 610, 611, 612, 613, 614] (by decide +kernel) (by decide +kernel)
set_option maxRecDepth 20000 in
theorem ggL_law_X6_about_wsX40 : GoodIn wsL_law wsX40 := goodIn_r _ [615, 616, 617] (by decide +kernel) (by decide +kernel)
set_option maxRecDepth 20000 in
theorem ggL_law_X6_about_wsX00 : GoodIn wsL_law wsX00 := goodIn_r _ [623, 624, 625, 626] (by decide +kernel) (by decide +kernel)
set_option maxRecDepth 20000 in
theorem ggL_law_X6_about_wsX30 : GoodIn wsL_law wsX30 := goodIn_r _ [621, 622] (by decide +kernel) (by decide +kernel)
set_option maxRecDepth 20000 in
theorem ggL_law_X6_about : GoodIn wsL_law wsX6_about := goodIn_ca (goodIn_cons ggL_law_X6_about_h (goodIn_app (goodIn_app (goodIn_app (goodIn_app (goodIn_app (goodIn_app (goodIn_app (goodIn_app ggL_law_X6_about_0 (goodIn_app ggL_law_X6_about_1 (goodIn_app ggL_law_X6_about_2 (goodIn_app ggL_law_X6_about_3 (goodIn_app ggL_law_X6_about_4 ggL_law_X6_about_5))))) ggL_law_X6_about_wsX60) ggL_law_X6_about_wsX50) ggL_law_X6_about_wsX20) ggL_law_X6_about_wsX10) ggL_law_X6_about_wsX40) ggL_law_X6_about_wsX00) ggL_law_X6_about_wsX30)) (goodIn_sub (fun _ h => List.mem_append_left _ (List.mem_append_left _ (List.mem_append_right _ h))) (by decide +kernel))
set_option maxRecDepth 20000 in
theorem gL_law_X6_about : GoodIn wsL_law (wsV RL 118 RX6 yX6_about wsX6_about) := goodIn_app (goodIn_of _ (by decide +kernel)) ggL_law_X6_about
set_option maxRecDepth 20000 in
theorem ggL_law_X6_finest : GoodIn wsL_law wsX6_finest := goodIn_r _ [531, 34, 310, 42, 383, 384, 385, 2, 386, 47, 26, 387, 388, 389, 390, 46, 391, 392, 393, 394, 395, 396, 397, 398, 399, 33, 400, 73, 401, 402, 403, 404, 74, 405, 406, 407, 408, 72, 409, 201, 202, 25, 203, 204, 205, 161, 162, 163, 206, 207, 208, 209, 136, 137, 210, 145, 146, 410, 411, 412, 413, 157, 158, 159, 160, 52, 414, 415, 416, 417, 418, 30, 419, 420, 421, 422, 423, 53, 243, 244, 245, 246, 54, 424, 425, 426, 427, 428, 429, 430, 29, 431, 67, 65, 66, 432, 303, 304, 41, 305, 87, 433, 434, 435, 436, 437, 438, 439, 440, 441, 593, 594, 595, 596, 597, 598, 599, 618, 619, 620, 627, 628, 629, 630, 631, 606, 607, 608, 609, 610, 611, 612, 613, 614, 615, 616, 617, 623, 624, 625, 626] (by decide +kernel) (by decide +kernel)
set_option maxRecDepth 20000 in
theorem gL_law_X6_finest : GoodIn wsL_law (wsV RL 124 RX6 yX6_finest wsX6_finest) := goodIn_app (goodIn_of _ (by decide +kernel)) ggL_law_X6_finest
set_option maxRecDepth 20000 in
theorem ggL_law_X6_digest_h : GoodIn wsL_law [.code yX6_digest cX6_digest 4 (some .long)] := goodIn_sub (List.forall_mem_cons.mpr ⟨List.mem_of_getElem? (i := 535) rfl, fun _ h => absurd h List.not_mem_nil⟩) (by decide +kernel)
set_option maxRecDepth 20000 in
theorem ggL_law_X6_digest_0 : GoodIn wsL_law wsX6_digest_r1 := goodIn_r _ [536, 537, 38, 320, 538, 467, 468, 2, 469, 42, 361, 26, 470, 30, 34, 310, 471, 472, 473, 474, 133, 134, 379, 380] (by decide +kernel) (by decide +kernel)
set_option maxRecDepth 20000 in
theorem ggL_law_X6_digest_1 : GoodIn wsL_law wsX6_digest_r2 := goodIn_r _ [381, 41, 382, 85, 475, 476, 477, 25, 478, 52, 479, 480, 481, 29, 482, 67, 483, 287, 288, 289, 66, 290, 291, 292] (by decide +kernel) (by decide +kernel)
set_option maxRecDepth 20000 in
theorem ggL_law_X6_digest_2 : GoodIn wsL_law wsX6_digest_r3 := goodIn_r _ [293, 484, 485, 486, 487, 128, 488, 489, 490, 491, 432, 303, 304, 305, 87, 492, 493, 494, 495, 88, 539, 540, 541, 542] (by decide +kernel) (by decide +kernel)
set_option maxRecDepth 20000 in
theorem ggL_law_X6_digest_3 : GoodIn wsL_law wsX6_digest_r4 := goodIn_r _ [543, 497, 498, 499, 129, 130, 131, 132, 135, 136, 137, 144, 145, 146, 419, 158, 159, 160, 161, 162, 163, 420, 421, 422] (by decide +kernel) (by decide +kernel)
set_option maxRecDepth 20000 in
theorem ggL_law_X6_digest_4 : GoodIn wsL_law wsX6_digest_r5 := goodIn_r _ [423, 53, 243, 244, 245, 246, 54, 211, 212, 213, 214, 57, 215, 216, 217, 218, 56, 500, 371, 372, 373, 58, 544, 545] (by decide +kernel) (by decide +kernel)
set_option maxRecDepth 20000 in
theorem ggL_law_X6_digest_5 : GoodIn wsL_law wsX6_digest_r6 := goodIn_r _ [546, 547, 259, 548, 502, 503, 504, 282, 283, 284, 285, 298, 299, 300, 301, 65, 302, 286, 505, 506, 507, 508, 549, 550] (by decide +kernel) (by decide +kernel)
set_option maxRecDepth 20000 in
theorem ggL_law_X6_digest_6 : GoodIn wsL_law wsX6_digest_r7 := goodIn_r _ [551, 552, 553, 518, 519, 520, 47, 418, 521, 522, 387, 321, 322, 323, 324, 383, 384, 385, 386, 388, 389, 390, 46, 391] (by decide +kernel) (by decide +kernel)
set_option maxRecDepth 20000 in
theorem ggL_law_X6_digest_7 : GoodIn wsL_law wsX6_digest_r8 := goodIn_r _ [392, 393, 394, 395, 396, 397, 398, 399, 33, 400, 73, 401, 402, 403, 404, 74, 405, 406, 407, 408, 72, 409, 201, 202] (by decide +kernel) (by decide +kernel)
set_option maxRecDepth 20000 in
theorem ggL_law_X6_digest_8 : GoodIn wsL_law wsX6_digest_r9 := goodIn_r _ [203, 204, 205, 206, 207, 208, 209, 210, 410, 411, 412, 413, 157, 414, 415, 416, 417, 424, 425, 426, 427, 428, 429, 430] (by decide +kernel) (by decide +kernel)
set_option maxRecDepth 20000 in
theorem ggL_law_X6_digest_9 : GoodIn wsL_law wsX6_digest_r10 := goodIn_r _ [431, 433, 434, 435, 436, 437, 438, 439, 440, 441, 523, 524, 525, 37, 526, 80, 527, 338, 339, 340, 79, 341, 342, 343] (by decide +kernel) (by decide +kernel)
set_option maxRecDepth 20000 in
theorem ggL_law_X6_digest_10 : GoodIn wsL_law wsX6_digest_r11 := goodIn_r _ [344, 554, 510, 511, 512, 333, 334, 335, 336, 513, 514, 515, 516] (by decide +kernel) (by decide +kernel)
set_option maxRecDepth 20000 in
theorem ggL_law_X6_digest_wsX60 : GoodIn wsL_law wsX60 := goodIn_r _ [593, 594, 595, 596, 597, 598, 599] (by decide +kernel) (by decide +kernel)
set_option maxRecDepth 20000 in
theorem ggL_law_X6_digest_wsX30 : GoodIn wsL_law wsX30 := goodIn_r _ [621, 622] (by decide +kernel) (by decide +kernel)
set_option maxRecDepth 20000 in
theorem ggL_law_X6_digest_wsX00 : GoodIn wsL_law wsX00 := goodIn_r _ [623, 624, 625, 626] (by decide +kernel) (by decide +kernel)
set_option maxRecDepth 20000 in
theorem ggL_law_X6_digest_wsX10 : GoodIn wsL_law wsX10 := goodIn_r _ [606, 607, 608, 609, 610, 611, 612, 613, 614] (by decide +kernel) (by decide +kernel)
set_option maxRecDepth 20000 in
theorem ggL_law_X6_digest_wsX20 : GoodIn wsL_law wsX20 := goodIn_r _ [618, 619, 620] (by decide +kernel) (by decide +kernel)
set_option maxRecDepth 20000 in
theorem ggL_law_X6_digest_wsX40 : GoodIn wsL_law wsX40 := goodIn_r _ [615, 616, 617] (by decide +kernel) (by decide +kernel)
set_option maxRecDepth 20000 in
theorem ggL_law_X6_digest_wsX50 : GoodIn wsL_law wsX50 := goodIn_r _ [627, 628, 629, 630, 631] (by decide +kernel) (by decide +kernel)
set_option maxRecDepth 20000 in
theorem ggL_law_X6_digest : GoodIn wsL_law wsX6_digest := goodIn_ca (goodIn_cons ggL_law_X6_digest_h (goodIn_app (goodIn_app (goodIn_app (goodIn_app (goodIn_app (goodIn_app (goodIn_app (goodIn_app ggL_law_X6_digest_0 (goodIn_app ggL_law_X6_digest_1 (goodIn_app ggL_law_X6_digest_2 (goodIn_app ggL_law_X6_digest_3 (goodIn_app ggL_law_X6_digest_4 (goodIn_app ggL_law_X6_digest_5 (goodIn_app ggL_law_X6_digest_6 (goodIn_app ggL_law_X6_digest_7 (goodIn_app ggL_law_X6_digest_8 (goodIn_app ggL_law_X6_digest_9 ggL_law_X6_digest_10)))))))))) ggL_law_X6_digest_wsX60) ggL_law_X6_digest_wsX30) ggL_law_X6_digest_wsX00) ggL_law_X6_digest_wsX10) ggL_law_X6_digest_wsX20) ggL_law_X6_digest_wsX40) ggL_law_X6_digest_wsX50)) (goodIn_sub (fun _ h => List.mem_append_left _ (List.mem_append_left _ (List.mem_append_right _ h))) (by decide +kernel))
set_option maxRecDepth 20000 in
theorem gL_law_X6_digest : GoodIn wsL_law (wsV RL 127 RX6 yX6_digest wsX6_digest) := goodIn_app (goodIn_of _ (by decide +kernel)) ggL_law_X6_digest
set_option maxRecDepth 20000 in
theorem ggL_law_X6_foresee_h : GoodIn wsL_law [.code yX6_foresee cX6_foresee 3 (some .int)] := goodIn_sub (List.forall_mem_cons.mpr ⟨List.mem_of_getElem? (i := 558) rfl, fun _ h => absurd h List.not_mem_nil⟩) (by decide +kernel)
set_option maxRecDepth 20000 in
theorem ggL_law_X6_foresee_0 : GoodIn wsL_law wsX6_foresee_r1 := goodIn_r _ [133, 134, 43, 42, 353, 354, 355, 2, 356, 142, 143, 559, 560, 561, 41, 562, 85, 86, 87, 88, 357, 358, 359, 360] (by decide +kernel) (by decide +kernel)
set_option maxRecDepth 20000 in
theorem ggL_law_X6_foresee_1 : GoodIn wsL_law wsX6_foresee_r2 := goodIn_r _ [128, 361, 362, 363, 364, 365, 30, 259, 26, 286, 287, 288, 29, 289, 66, 290, 291, 292, 293, 67, 298, 299, 300, 301] (by decide +kernel) (by decide +kernel)
set_option maxRecDepth 20000 in
theorem ggL_law_X6_foresee_2 : GoodIn wsL_law wsX6_foresee_r3 := goodIn_r _ [65, 366, 367, 368, 25, 369, 370, 371, 372, 373, 58, 215, 216, 217, 218, 56, 161, 162, 163, 374, 212, 213, 214, 57] (by decide +kernel) (by decide +kernel)
set_option maxRecDepth 20000 in
theorem ggL_law_X6_foresee_3 : GoodIn wsL_law wsX6_foresee_r4 := goodIn_r _ [302, 303, 304, 305, 265, 266, 267, 268, 269, 14, 5, 15, 270, 11, 12, 375, 376, 377, 378, 38, 320, 379, 380, 381] (by decide +kernel) (by decide +kernel)
set_option maxRecDepth 20000 in
theorem ggL_law_X6_foresee_4 : GoodIn wsL_law wsX6_foresee_r5 := goodIn_r _ [382, 337, 338, 339, 37, 340, 79, 341, 342, 343, 344, 80, 383, 384, 385, 386, 47, 34, 387, 388, 389, 390, 46, 391] (by decide +kernel) (by decide +kernel)
set_option maxRecDepth 20000 in
theorem ggL_law_X6_foresee_5 : GoodIn wsL_law wsX6_foresee_r6 := goodIn_r _ [392, 393, 394, 395, 396, 397, 398, 399, 33, 400, 73, 401, 402, 403, 404, 74, 405, 406, 407, 408, 72, 409, 201, 202] (by decide +kernel) (by decide +kernel)
set_option maxRecDepth 20000 in
theorem ggL_law_X6_foresee_6 : GoodIn wsL_law wsX6_foresee_r7 := goodIn_r _ [203, 204, 205, 206, 207, 208, 209, 136, 137, 210, 145, 146, 410, 411, 412, 413, 157, 158, 159, 160, 52, 414, 415, 416] (by decide +kernel) (by decide +kernel)
set_option maxRecDepth 20000 in
theorem ggL_law_X6_foresee_7 : GoodIn wsL_law wsX6_foresee_r8 := goodIn_r _ [417, 418, 419, 420, 421, 422, 423, 53, 243, 244, 245, 246, 54, 424, 425, 426, 427, 428, 429, 430, 431, 432, 433, 434] (by decide +kernel) (by decide +kernel)
set_option maxRecDepth 20000 in
theorem ggL_law_X6_foresee_8 : GoodIn wsL_law wsX6_foresee_r9 := goodIn_r _ [435, 436, 437, 438, 439, 440, 441, 442, 443, 444, 445, 484, 485, 486, 487, 488, 489, 490, 491, 483, 492, 493, 494, 495] (by decide +kernel) (by decide +kernel)
set_option maxRecDepth 20000 in
theorem ggL_law_X6_foresee_wsX60 : GoodIn wsL_law wsX60 := goodIn_r _ [593, 594, 595, 596, 597, 598, 599] (by decide +kernel) (by decide +kernel)
set_option maxRecDepth 20000 in
theorem ggL_law_X6_foresee_wsX00 : GoodIn wsL_law wsX00 := goodIn_r _ [623, 624, 625, 626] (by decide +kernel) (by decide +kernel)
set_option maxRecDepth 20000 in
theorem ggL_law_X6_foresee_wsX40 : GoodIn wsL_law wsX40 := goodIn_r _ [615, 616, 617] (by decide +kernel) (by decide +kernel)
set_option maxRecDepth 20000 in
theorem ggL_law_X6_foresee_wsX10 : GoodIn wsL_law wsX10 := goodIn_r _ [606, 607, 608, 609, 610, 611, 612, 613, 614] (by decide +kernel) (by decide +kernel)
set_option maxRecDepth 20000 in
theorem ggL_law_X6_foresee_wsX30 : GoodIn wsL_law wsX30 := goodIn_r _ [621, 622] (by decide +kernel) (by decide +kernel)
set_option maxRecDepth 20000 in
theorem ggL_law_X6_foresee_wsX50 : GoodIn wsL_law wsX50 := goodIn_r _ [627, 628, 629, 630, 631] (by decide +kernel) (by decide +kernel)
set_option maxRecDepth 20000 in
theorem ggL_law_X6_foresee_wsX20 : GoodIn wsL_law wsX20 := goodIn_r _ [618, 619, 620] (by decide +kernel) (by decide +kernel)
set_option maxRecDepth 20000 in
theorem ggL_law_X6_foresee : GoodIn wsL_law wsX6_foresee := goodIn_ca (goodIn_ca (goodIn_cons ggL_law_X6_foresee_h (goodIn_app (goodIn_app (goodIn_app (goodIn_app (goodIn_app (goodIn_app (goodIn_app (goodIn_app ggL_law_X6_foresee_0 (goodIn_app ggL_law_X6_foresee_1 (goodIn_app ggL_law_X6_foresee_2 (goodIn_app ggL_law_X6_foresee_3 (goodIn_app ggL_law_X6_foresee_4 (goodIn_app ggL_law_X6_foresee_5 (goodIn_app ggL_law_X6_foresee_6 (goodIn_app ggL_law_X6_foresee_7 ggL_law_X6_foresee_8)))))))) ggL_law_X6_foresee_wsX60) ggL_law_X6_foresee_wsX00) ggL_law_X6_foresee_wsX40) ggL_law_X6_foresee_wsX10) ggL_law_X6_foresee_wsX30) ggL_law_X6_foresee_wsX50) ggL_law_X6_foresee_wsX20)) (goodIn_sub (fun _ h => List.mem_append_left _ (List.mem_append_left _ (List.mem_append_right _ h))) (by decide +kernel))) (goodIn_sub (fun _ h => List.mem_append_left _ (List.mem_append_right _ h)) (by decide +kernel))
set_option maxRecDepth 20000 in
theorem gL_law_X6_foresee : GoodIn wsL_law (wsV RL 131 RX6 yX6_foresee wsX6_foresee) := goodIn_app (goodIn_of _ (by decide +kernel)) ggL_law_X6_foresee
set_option maxRecDepth 20000 in
theorem ggL_law_L_below : GoodIn wsL_law wsL_below := goodIn_r _ [115, 116] (by decide +kernel) (by decide +kernel)
set_option maxRecDepth 20000 in
theorem gL_law_L_below : GoodIn wsL_law (va_wsS RL 9 yL_below wsL_below) := goodIn_app (goodIn_of _ (by decide +kernel)) ggL_law_L_below
set_option maxRecDepth 20000 in
theorem ggL_law_X6_advise_h : GoodIn wsL_law [.code yX6_advise cX6_advise 8 (some .int)] := goodIn_sub (List.forall_mem_cons.mpr ⟨List.mem_of_getElem? (i := 566) rfl, fun _ h => absurd h List.not_mem_nil⟩) (by decide +kernel)
set_option maxRecDepth 20000 in
theorem ggL_law_X6_advise_0 : GoodIn wsL_law wsX6_advise_r1 := goodIn_r _ [42, 26, 321, 322, 323, 2, 324, 133, 134, 34, 310, 138, 139, 140, 141, 142, 143, 383, 384, 385, 386, 47, 387, 388] (by decide +kernel) (by decide +kernel)
set_option maxRecDepth 20000 in
theorem ggL_law_X6_advise_1 : GoodIn wsL_law wsX6_advise_r2 := goodIn_r _ [389, 390, 46, 391, 392, 393, 394, 395, 396, 397, 398, 399, 33, 400, 73, 401, 402, 403, 404, 74, 405, 406, 407, 408] (by decide +kernel) (by decide +kernel)
set_option maxRecDepth 20000 in
theorem ggL_law_X6_advise_2 : GoodIn wsL_law wsX6_advise_r3 := goodIn_r _ [72, 409, 201, 202, 25, 203, 204, 205, 161, 162, 163, 206, 207, 208, 209, 136, 137, 210, 145, 146, 410, 411, 412, 413] (by decide +kernel) (by decide +kernel)
set_option maxRecDepth 20000 in
theorem ggL_law_X6_advise_3 : GoodIn wsL_law wsX6_advise_r4 := goodIn_r _ [157, 158, 159, 160, 52, 414, 415, 416, 417, 418, 30, 419, 420, 421, 422, 423, 53, 243, 244, 245, 246, 54, 424, 425] (by decide +kernel) (by decide +kernel)
set_option maxRecDepth 20000 in
theorem ggL_law_X6_advise_4 : GoodIn wsL_law wsX6_advise_r5 := goodIn_r _ [426, 427, 428, 429, 430, 29, 431, 67, 65, 66, 432, 303, 304, 41, 305, 87, 433, 434, 435, 436, 437, 438, 439, 440] (by decide +kernel) (by decide +kernel)
set_option maxRecDepth 20000 in
theorem ggL_law_X6_advise_5 : GoodIn wsL_law wsX6_advise_r6 := goodIn_r _ [441, 153, 154, 155, 156, 567, 568, 569, 570, 168, 169, 170, 171, 172, 173, 174, 175, 571, 572, 573, 574] (by decide +kernel) (by decide +kernel)
set_option maxRecDepth 20000 in
theorem ggL_law_X6_advise_wsX60 : GoodIn wsL_law wsX60 := goodIn_r _ [593, 594, 595, 596, 597, 598, 599] (by decide +kernel) (by decide +kernel)
set_option maxRecDepth 20000 in
theorem ggL_law_X6_advise_wsX20 : GoodIn wsL_law wsX20 := goodIn_r _ [618, 619, 620] (by decide +kernel) (by decide +kernel)
set_option maxRecDepth 20000 in
theorem ggL_law_X6_advise_wsX50 : GoodIn wsL_law wsX50 := goodIn_r _ [627, 628, 629, 630, 631] (by decide +kernel) (by decide +kernel)
set_option maxRecDepth 20000 in
theorem ggL_law_X6_advise_wsX10 : GoodIn wsL_law wsX10 := goodIn_r _ [606, 607, 608, 609, 610, 611, 612, 613, 614] (by decide +kernel) (by decide +kernel)
set_option maxRecDepth 20000 in
theorem ggL_law_X6_advise_wsX40 : GoodIn wsL_law wsX40 := goodIn_r _ [615, 616, 617] (by decide +kernel) (by decide +kernel)
set_option maxRecDepth 20000 in
theorem ggL_law_X6_advise_wsX00 : GoodIn wsL_law wsX00 := goodIn_r _ [623, 624, 625, 626] (by decide +kernel) (by decide +kernel)
set_option maxRecDepth 20000 in
theorem ggL_law_X6_advise : GoodIn wsL_law wsX6_advise := goodIn_ca (goodIn_ca (goodIn_cons ggL_law_X6_advise_h (goodIn_app (goodIn_app (goodIn_app (goodIn_app (goodIn_app (goodIn_app (goodIn_app ggL_law_X6_advise_0 (goodIn_app ggL_law_X6_advise_1 (goodIn_app ggL_law_X6_advise_2 (goodIn_app ggL_law_X6_advise_3 (goodIn_app ggL_law_X6_advise_4 ggL_law_X6_advise_5))))) ggL_law_X6_advise_wsX60) ggL_law_X6_advise_wsX20) ggL_law_X6_advise_wsX50) ggL_law_X6_advise_wsX10) ggL_law_X6_advise_wsX40) ggL_law_X6_advise_wsX00)) (goodIn_sub (fun _ h => List.mem_append_left _ (List.mem_append_left _ (List.mem_append_right _ h))) (by decide +kernel))) (goodIn_sub (fun _ h => List.mem_append_left _ (List.mem_append_right _ h)) (by decide +kernel))
set_option maxRecDepth 20000 in
theorem gL_law_X6_advise : GoodIn wsL_law (wsV RL 134 RX6 yX6_advise wsX6_advise) := goodIn_app (goodIn_of _ (by decide +kernel)) ggL_law_X6_advise
set_option maxRecDepth 20000 in
theorem ggL_law_X6_pass_h : GoodIn wsL_law [.code yX6_pass cX6_pass 2 (some .int)] := goodIn_sub (List.forall_mem_cons.mpr ⟨List.mem_of_getElem? (i := 352) rfl, fun _ h => absurd h List.not_mem_nil⟩) (by decide +kernel)
set_option maxRecDepth 20000 in
theorem ggL_law_X6_pass_0 : GoodIn wsL_law wsX6_pass_r1 := goodIn_r _ [42, 353, 354, 355, 2, 356, 142, 143, 357, 358, 359, 360, 128, 361, 362, 363, 364, 365, 30, 259, 26, 286, 287, 288] (by decide +kernel) (by decide +kernel)
set_option maxRecDepth 20000 in
theorem ggL_law_X6_pass_1 : GoodIn wsL_law wsX6_pass_r2 := goodIn_r _ [29, 289, 66, 290, 291, 292, 293, 67, 298, 299, 300, 301, 65, 366, 367, 368, 25, 369, 370, 371, 372, 373, 58, 215] (by decide +kernel) (by decide +kernel)
set_option maxRecDepth 20000 in
theorem ggL_law_X6_pass_2 : GoodIn wsL_law wsX6_pass_r3 := goodIn_r _ [216, 217, 218, 56, 161, 162, 163, 374, 212, 213, 214, 57, 302, 303, 304, 41, 305, 87, 265, 266, 267, 268, 269, 14] (by decide +kernel) (by decide +kernel)
set_option maxRecDepth 20000 in
theorem ggL_law_X6_pass_3 : GoodIn wsL_law wsX6_pass_r4 := goodIn_r _ [5, 15, 270, 11, 12, 375, 376, 377, 378, 38, 320, 379, 380, 381, 382, 85, 337, 338, 339, 37, 340, 79, 341, 342] (by decide +kernel) (by decide +kernel)
set_option maxRecDepth 20000 in
theorem ggL_law_X6_pass_4 : GoodIn wsL_law wsX6_pass_r5 := goodIn_r _ [343, 344, 80, 383, 384, 385, 386, 47, 34, 387, 388, 389, 390, 46, 391, 392, 393, 394, 395, 396, 397, 398, 399, 33] (by decide +kernel) (by decide +kernel)
set_option maxRecDepth 20000 in
theorem ggL_law_X6_pass_5 : GoodIn wsL_law wsX6_pass_r6 := goodIn_r _ [400, 73, 401, 402, 403, 404, 74, 405, 406, 407, 408, 72, 409, 201, 202, 203, 204, 205, 206, 207, 208, 209, 136, 137] (by decide +kernel) (by decide +kernel)
set_option maxRecDepth 20000 in
theorem ggL_law_X6_pass_6 : GoodIn wsL_law wsX6_pass_r7 := goodIn_r _ [210, 145, 146, 410, 411, 412, 413, 157, 158, 159, 160, 52, 414, 415, 416, 417, 418, 419, 420, 421, 422, 423, 53, 243] (by decide +kernel) (by decide +kernel)
set_option maxRecDepth 20000 in
theorem ggL_law_X6_pass_7 : GoodIn wsL_law wsX6_pass_r8 := goodIn_r _ [244, 245, 246, 54, 424, 425, 426, 427, 428, 429, 430, 431, 432, 433, 434, 435, 436, 437, 438, 439, 440, 441, 442, 443] (by decide +kernel) (by decide +kernel)
set_option maxRecDepth 20000 in
theorem ggL_law_X6_pass_8 : GoodIn wsL_law wsX6_pass_r9 := goodIn_r _ [444, 445, 88] (by decide +kernel) (by decide +kernel)
set_option maxRecDepth 20000 in
theorem ggL_law_X6_pass_wsX60 : GoodIn wsL_law wsX60 := goodIn_r _ [593, 594, 595, 596, 597, 598, 599] (by decide +kernel) (by decide +kernel)
set_option maxRecDepth 20000 in
theorem ggL_law_X6_pass_wsX00 : GoodIn wsL_law wsX00 := goodIn_r _ [623, 624, 625, 626] (by decide +kernel) (by decide +kernel)
set_option maxRecDepth 20000 in
theorem ggL_law_X6_pass_wsX40 : GoodIn wsL_law wsX40 := goodIn_r _ [615, 616, 617] (by decide +kernel) (by decide +kernel)
set_option maxRecDepth 20000 in
theorem ggL_law_X6_pass_wsX10 : GoodIn wsL_law wsX10 := goodIn_r _ [606, 607, 608, 609, 610, 611, 612, 613, 614] (by decide +kernel) (by decide +kernel)
set_option maxRecDepth 20000 in
theorem ggL_law_X6_pass_wsX30 : GoodIn wsL_law wsX30 := goodIn_r _ [621, 622] (by decide +kernel) (by decide +kernel)
set_option maxRecDepth 20000 in
theorem ggL_law_X6_pass_wsX50 : GoodIn wsL_law wsX50 := goodIn_r _ [627, 628, 629, 630, 631] (by decide +kernel) (by decide +kernel)
set_option maxRecDepth 20000 in
theorem ggL_law_X6_pass_wsX20 : GoodIn wsL_law wsX20 := goodIn_r _ [618, 619, 620] (by decide +kernel) (by decide +kernel)
set_option maxRecDepth 20000 in
theorem ggL_law_X6_pass : GoodIn wsL_law wsX6_pass := goodIn_ca (goodIn_cons ggL_law_X6_pass_h (goodIn_app (goodIn_app (goodIn_app (goodIn_app (goodIn_app (goodIn_app (goodIn_app (goodIn_app ggL_law_X6_pass_0 (goodIn_app ggL_law_X6_pass_1 (goodIn_app ggL_law_X6_pass_2 (goodIn_app ggL_law_X6_pass_3 (goodIn_app ggL_law_X6_pass_4 (goodIn_app ggL_law_X6_pass_5 (goodIn_app ggL_law_X6_pass_6 (goodIn_app ggL_law_X6_pass_7 ggL_law_X6_pass_8)))))))) ggL_law_X6_pass_wsX60) ggL_law_X6_pass_wsX00) ggL_law_X6_pass_wsX40) ggL_law_X6_pass_wsX10) ggL_law_X6_pass_wsX30) ggL_law_X6_pass_wsX50) ggL_law_X6_pass_wsX20)) (goodIn_sub (fun _ h => List.mem_append_left _ (List.mem_append_right _ h)) (by decide +kernel))
set_option maxRecDepth 20000 in
theorem gL_law_X6_pass : GoodIn wsL_law (wsV RL 91 RX6 yX6_pass wsX6_pass) := goodIn_app (goodIn_of _ (by decide +kernel)) ggL_law_X6_pass
set_option maxRecDepth 20000 in
theorem ggL_law_X7_pass : GoodIn wsL_law wsX7_pass := goodIn_r _ [449, 106, 108, 107, 450, 103, 451, 220, 221, 98, 222, 223, 9, 104, 452, 453, 454, 455, 456, 225, 226, 457, 458, 459, 460, 461, 462, 463, 464, 105, 8, 465, 276, 277, 600, 601, 602, 603, 604, 605] (by decide +kernel) (by decide +kernel)
set_option maxRecDepth 20000 in
theorem gL_law_X7_pass : GoodIn wsL_law (wsV RL 94 RX7 yX7_pass wsX7_pass) := goodIn_app (goodIn_of _ (by decide +kernel)) ggL_law_X7_pass
set_option maxRecDepth 20000 in
theorem ggL_law_X7_isSame_h : GoodIn wsL_law [.code yX7_isSame cX7_isSame 13 (some .boolean)] := goodIn_sub (List.forall_mem_cons.mpr ⟨List.mem_of_getElem? (i := 578) rfl, fun _ h => absurd h List.not_mem_nil⟩) (by decide +kernel)
set_option maxRecDepth 20000 in
theorem ggL_law_X7_isSame_0 : GoodIn wsL_law wsX7_isSame_r1 := goodIn_r _ [104, 8, 106, 107, 108, 451, 220, 221, 98, 222, 223, 9, 456, 225, 226, 452, 453, 454, 455, 579, 497, 498, 2, 499] (by decide +kernel) (by decide +kernel)
set_option maxRecDepth 20000 in
theorem ggL_law_X7_isSame_1 : GoodIn wsL_law wsX7_isSame_r2 := goodIn_r _ [26, 129, 130, 131, 132, 133, 134, 135, 136, 25, 137, 471, 472, 473, 474, 144, 145, 146, 419, 158, 159, 160, 52, 161] (by decide +kernel) (by decide +kernel)
set_option maxRecDepth 20000 in
theorem ggL_law_X7_isSame_2 : GoodIn wsL_law wsX7_isSame_r3 := goodIn_r _ [162, 163, 420, 421, 422, 423, 53, 243, 244, 245, 246, 54, 211, 212, 213, 214, 57, 215, 216, 217, 218, 56, 500, 371] (by decide +kernel) (by decide +kernel)
set_option maxRecDepth 20000 in
theorem ggL_law_X7_isSame_3 : GoodIn wsL_law wsX7_isSame_r4 := goodIn_r _ [372, 373, 58, 580, 502, 503, 504, 30, 42, 282, 283, 284, 285, 259, 298, 299, 300, 29, 301, 65, 290, 291, 292, 293] (by decide +kernel) (by decide +kernel)
set_option maxRecDepth 20000 in
theorem ggL_law_X7_isSame_4 : GoodIn wsL_law wsX7_isSame_r5 := goodIn_r _ [67, 302, 303, 304, 41, 305, 87, 286, 287, 288, 289, 66, 505, 506, 507, 508, 461, 462, 463, 464, 105, 465, 276, 277] (by decide +kernel) (by decide +kernel)
set_option maxRecDepth 20000 in
theorem ggL_law_X7_isSame_5 : GoodIn wsL_law wsX7_isSame_r6 := goodIn_r _ [457, 458, 459, 460, 581, 518, 519, 520, 47, 418, 521, 522, 387, 38, 321, 322, 323, 324, 34, 310, 383, 384, 385, 386] (by decide +kernel) (by decide +kernel)
set_option maxRecDepth 20000 in
theorem ggL_law_X7_isSame_6 : GoodIn wsL_law wsX7_isSame_r7 := goodIn_r _ [388, 389, 390, 46, 391, 392, 393, 394, 395, 396, 397, 398, 399, 33, 400, 73, 401, 402, 403, 404, 74, 405, 406, 407] (by decide +kernel) (by decide +kernel)
set_option maxRecDepth 20000 in
theorem ggL_law_X7_isSame_7 : GoodIn wsL_law wsX7_isSame_r8 := goodIn_r _ [408, 72, 409, 201, 202, 203, 204, 205, 206, 207, 208, 209, 210, 410, 411, 412, 413, 157, 414, 415, 416, 417, 424, 425] (by decide +kernel) (by decide +kernel)
set_option maxRecDepth 20000 in
theorem ggL_law_X7_isSame_8 : GoodIn wsL_law wsX7_isSame_r9 := goodIn_r _ [426, 427, 428, 429, 430, 431, 432, 433, 434, 435, 436, 437, 438, 439, 440, 441, 523, 524, 525, 37, 526, 80, 527, 338] (by decide +kernel) (by decide +kernel)
set_option maxRecDepth 20000 in
theorem ggL_law_X7_isSame_9 : GoodIn wsL_law wsX7_isSame_r10 := goodIn_r _ [339, 340, 79, 341, 342, 343, 344, 582, 510, 511, 512, 333, 334, 335, 336, 320, 513, 514, 515, 516, 88, 583, 584, 585] (by decide +kernel) (by decide +kernel)
set_option maxRecDepth 20000 in
theorem ggL_law_X7_isSame_10 : GoodIn wsL_law wsX7_isSame_r11 := goodIn_r _ [586, 450, 103, 587, 467, 468, 469, 361, 470, 379, 380, 381, 382, 85, 475, 476, 477, 478, 479, 480, 481, 482, 483, 484] (by decide +kernel) (by decide +kernel)
set_option maxRecDepth 20000 in
theorem ggL_law_X7_isSame_11 : GoodIn wsL_law wsX7_isSame_r12 := goodIn_r _ [485, 486, 487, 128, 488, 489, 490, 491, 492, 493, 494, 495, 588, 529, 530, 531, 589, 590, 591, 592] (by decide +kernel) (by decide +kernel)
set_option maxRecDepth 20000 in
theorem ggL_law_X7_isSame_wsX70 : GoodIn wsL_law wsX70 := goodIn_r _ [600, 601, 602, 603, 604, 605] (by decide +kernel) (by decide +kernel)
set_option maxRecDepth 20000 in
theorem ggL_law_X7_isSame_wsX60 : GoodIn wsL_law wsX60 := goodIn_r _ [593, 594, 595, 596, 597, 598, 599] (by decide +kernel) (by decide +kernel)
set_option maxRecDepth 20000 in
theorem ggL_law_X7_isSame_wsX10 : GoodIn wsL_law wsX10 := goodIn_r _ [606, 607, 608, 609, 610, 611, 612, 613, 614] (by decide +kernel) (by decide +kernel)
set_option maxRecDepth 20000 in
theorem ggL_law_X7_isSame_wsX40 : GoodIn wsL_law wsX40 := goodIn_r _ [615, 616, 617] (by decide +kernel) (by decide +kernel)
set_option maxRecDepth 20000 in
theorem ggL_law_X7_isSame_wsX00 : GoodIn wsL_law wsX00 := goodIn_r _ [623, 624, 625, 626] (by decide +kernel) (by decide +kernel)
set_option maxRecDepth 20000 in
theorem ggL_law_X7_isSame_wsX50 : GoodIn wsL_law wsX50 := goodIn_r _ [627, 628, 629, 630, 631] (by decide +kernel) (by decide +kernel)
set_option maxRecDepth 20000 in
theorem ggL_law_X7_isSame_wsX20 : GoodIn wsL_law wsX20 := goodIn_r _ [618, 619, 620] (by decide +kernel) (by decide +kernel)
set_option maxRecDepth 20000 in
theorem ggL_law_X7_isSame_wsX30 : GoodIn wsL_law wsX30 := goodIn_r _ [621, 622] (by decide +kernel) (by decide +kernel)
set_option maxRecDepth 20000 in
theorem ggL_law_X7_isSame : GoodIn wsL_law wsX7_isSame := goodIn_ca (goodIn_cons ggL_law_X7_isSame_h (goodIn_app (goodIn_app (goodIn_app (goodIn_app (goodIn_app (goodIn_app (goodIn_app (goodIn_app (goodIn_app ggL_law_X7_isSame_0 (goodIn_app ggL_law_X7_isSame_1 (goodIn_app ggL_law_X7_isSame_2 (goodIn_app ggL_law_X7_isSame_3 (goodIn_app ggL_law_X7_isSame_4 (goodIn_app ggL_law_X7_isSame_5 (goodIn_app ggL_law_X7_isSame_6 (goodIn_app ggL_law_X7_isSame_7 (goodIn_app ggL_law_X7_isSame_8 (goodIn_app ggL_law_X7_isSame_9 (goodIn_app ggL_law_X7_isSame_10 ggL_law_X7_isSame_11))))))))))) ggL_law_X7_isSame_wsX70) ggL_law_X7_isSame_wsX60) ggL_law_X7_isSame_wsX10) ggL_law_X7_isSame_wsX40) ggL_law_X7_isSame_wsX00) ggL_law_X7_isSame_wsX50) ggL_law_X7_isSame_wsX20) ggL_law_X7_isSame_wsX30)) (goodIn_sub (fun _ h => List.mem_append_left _ (List.mem_append_left _ (List.mem_append_right _ h))) (by decide +kernel))
set_option maxRecDepth 20000 in
theorem gL_law_X7_isSame : GoodIn wsL_law (wsV RL 140 RX7 yX7_isSame wsX7_isSame) := goodIn_app (goodIn_of _ (by decide +kernel)) ggL_law_X7_isSame

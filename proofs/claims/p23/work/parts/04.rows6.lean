set_option maxRecDepth 20000 in
theorem ggX6_init_X1_init : GoodIn wsX6_init wsX1_init := goodIn_r _ [31, 32, 2, 3, 33, 34, 35, 36, 37, 38, 39, 40, 41, 42, 75, 76, 77, 78, 79, 80, 81, 82, 83] (by decide +kernel) (by decide +kernel)
set_option maxRecDepth 20000 in
theorem gX6_init_X1_init : GoodIn wsX6_init (wsX1_init) := ggX6_init_X1_init
set_option maxRecDepth 20000 in
theorem ggX6_init_X4_init : GoodIn wsX6_init wsX4_init := goodIn_r _ [45, 46, 2, 3, 33, 47, 48, 49, 50, 91, 92, 93] (by decide +kernel) (by decide +kernel)
set_option maxRecDepth 20000 in
theorem gX6_init_X4_init : GoodIn wsX6_init (wsX4_init) := ggX6_init_X4_init
set_option maxRecDepth 20000 in
theorem ggX6_init_X2_init : GoodIn wsX6_init wsX2_init := goodIn_r _ [53, 54, 2, 3, 33, 55, 56, 57, 94, 95, 96] (by decide +kernel) (by decide +kernel)
set_option maxRecDepth 20000 in
theorem gX6_init_X2_init : GoodIn wsX6_init (wsX2_init) := ggX6_init_X2_init
set_option maxRecDepth 20000 in
theorem ggX6_init_X3_init : GoodIn wsX6_init wsX3_init := goodIn_r _ [60, 61, 2, 3, 33, 62, 63, 97, 98] (by decide +kernel) (by decide +kernel)
set_option maxRecDepth 20000 in
theorem gX6_init_X3_init : GoodIn wsX6_init (wsX3_init) := ggX6_init_X3_init
set_option maxRecDepth 20000 in
theorem ggX6_init_X0_init : GoodIn wsX6_init wsX0_init := goodIn_r _ [66, 67, 2, 3, 68, 69, 33, 70, 71, 99, 100, 101, 102] (by decide +kernel) (by decide +kernel)
set_option maxRecDepth 20000 in
theorem gX6_init_X0_init : GoodIn wsX6_init (wsX0_init) := ggX6_init_X0_init
set_option maxRecDepth 20000 in
theorem ggX6_init_X5_init : GoodIn wsX6_init wsX5_init := goodIn_r _ [73, 74, 2, 3] (by decide +kernel) (by decide +kernel)
set_option maxRecDepth 20000 in
theorem gX6_init_X5_init_n49 : GoodIn wsX6_init (wsX5_init) := ggX6_init_X5_init
theorem dX6_init_0 : decode cX6_init 0 = .ok (.aload_n 0, 1) := by decide +kernel
theorem dX6_init_1 : decode cX6_init 1 = .ok (.invokespecial 1, 3) := by decide +kernel
theorem dX6_init_4 : decode cX6_init 4 = .ok (.aload_n 0, 1) := by decide +kernel
theorem dX6_init_5 : decode cX6_init 5 = .ok (.new 7, 3) := by decide +kernel
theorem dX6_init_8 : decode cX6_init 8 = .ok (.dup, 1) := by decide +kernel
theorem dX6_init_9 : decode cX6_init 9 = .ok (.invokespecial 9, 3) := by decide +kernel
theorem dX6_init_12 : decode cX6_init 12 = .ok (.putfield 10, 3) := by decide +kernel
theorem dX6_init_15 : decode cX6_init 15 = .ok (.aload_n 0, 1) := by decide +kernel
theorem dX6_init_16 : decode cX6_init 16 = .ok (.new 16, 3) := by decide +kernel
theorem dX6_init_19 : decode cX6_init 19 = .ok (.dup, 1) := by decide +kernel
theorem dX6_init_20 : decode cX6_init 20 = .ok (.invokespecial 18, 3) := by decide +kernel
theorem dX6_init_23 : decode cX6_init 23 = .ok (.putfield 19, 3) := by decide +kernel
theorem dX6_init_26 : decode cX6_init 26 = .ok (.aload_n 0, 1) := by decide +kernel
theorem dX6_init_27 : decode cX6_init 27 = .ok (.new 23, 3) := by decide +kernel
theorem dX6_init_30 : decode cX6_init 30 = .ok (.dup, 1) := by decide +kernel
theorem dX6_init_31 : decode cX6_init 31 = .ok (.invokespecial 25, 3) := by decide +kernel
theorem dX6_init_34 : decode cX6_init 34 = .ok (.putfield 26, 3) := by decide +kernel
theorem dX6_init_37 : decode cX6_init 37 = .ok (.aload_n 0, 1) := by decide +kernel
theorem dX6_init_38 : decode cX6_init 38 = .ok (.new 30, 3) := by decide +kernel
theorem dX6_init_41 : decode cX6_init 41 = .ok (.dup, 1) := by decide +kernel
theorem dX6_init_42 : decode cX6_init 42 = .ok (.invokespecial 32, 3) := by decide +kernel
theorem dX6_init_45 : decode cX6_init 45 = .ok (.putfield 33, 3) := by decide +kernel
theorem dX6_init_48 : decode cX6_init 48 = .ok (.aload_n 0, 1) := by decide +kernel
theorem dX6_init_49 : decode cX6_init 49 = .ok (.new 37, 3) := by decide +kernel
theorem dX6_init_52 : decode cX6_init 52 = .ok (.dup, 1) := by decide +kernel
theorem dX6_init_53 : decode cX6_init 53 = .ok (.invokespecial 39, 3) := by decide +kernel
theorem dX6_init_56 : decode cX6_init 56 = .ok (.putfield 40, 3) := by decide +kernel
theorem dX6_init_59 : decode cX6_init 59 = .ok (.aload_n 0, 1) := by decide +kernel
theorem dX6_init_60 : decode cX6_init 60 = .ok (.new 37, 3) := by decide +kernel
theorem dX6_init_63 : decode cX6_init 63 = .ok (.dup, 1) := by decide +kernel
theorem dX6_init_64 : decode cX6_init 64 = .ok (.invokespecial 39, 3) := by decide +kernel
theorem dX6_init_67 : decode cX6_init 67 = .ok (.putfield 44, 3) := by decide +kernel
theorem dX6_init_70 : decode cX6_init 70 = .ok (.aload_n 0, 1) := by decide +kernel
theorem dX6_init_71 : decode cX6_init 71 = .ok (.new 47, 3) := by decide +kernel
theorem dX6_init_74 : decode cX6_init 74 = .ok (.dup, 1) := by decide +kernel
theorem dX6_init_75 : decode cX6_init 75 = .ok (.invokespecial 49, 3) := by decide +kernel
theorem dX6_init_78 : decode cX6_init 78 = .ok (.putfield 50, 3) := by decide +kernel
theorem dX6_init_81 : decode cX6_init 81 = .ok (.return_, 1) := by decide +kernel
set_option maxRecDepth 20000 in
theorem ggX6_rock_X6_checkPlace : GoodIn wsX6_rock wsX6_checkPlace := goodIn_ca (goodIn_r _ [8, 9, 10, 11, 12, 13, 14] (by decide +kernel) (by decide +kernel)) (goodIn_sub (fun _ h => List.mem_cons_of_mem _ (List.mem_append_left _ (List.mem_append_left _ (List.mem_append_right _ h)))) (by decide +kernel))
set_option maxRecDepth 20000 in
theorem gX6_rock_X6_checkPlace : GoodIn wsX6_rock (wsV RX6 54 RX6 yX6_checkPlace wsX6_checkPlace) := goodIn_app (goodIn_of _ (by decide +kernel)) ggX6_rock_X6_checkPlace
set_option maxRecDepth 20000 in
theorem ggX6_rock_X6_checkRock : GoodIn wsX6_rock wsX6_checkRock := goodIn_ca (goodIn_r _ [18, 19, 20] (by decide +kernel) (by decide +kernel)) (goodIn_sub (fun _ h => List.mem_cons_of_mem _ (List.mem_append_left _ (List.mem_append_right _ h))) (by decide +kernel))
set_option maxRecDepth 20000 in
theorem gX6_rock_X6_checkRock : GoodIn wsX6_rock (wsV RX6 58 RX6 yX6_checkRock wsX6_checkRock) := goodIn_app (goodIn_of _ (by decide +kernel)) ggX6_rock_X6_checkRock
set_option maxRecDepth 20000 in
theorem ggX6_rock_X1_numberOf : GoodIn wsX6_rock wsX1_numberOf := goodIn_r _ [23] (by decide +kernel) (by decide +kernel)
set_option maxRecDepth 20000 in
theorem gX6_rock_X1_numberOf : GoodIn wsX6_rock (va_wsS RX6 61 yX1_numberOf wsX1_numberOf) := goodIn_app (goodIn_of _ (by decide +kernel)) ggX6_rock_X1_numberOf
set_option maxRecDepth 20000 in
theorem ggX6_rock_X6_checkBare : GoodIn wsX6_rock wsX6_checkBare := goodIn_ca (goodIn_r _ [27, 28, 29, 1, 30, 31, 32, 13, 33, 34, 35, 36, 37, 38, 39, 40, 41, 56, 57, 58, 59, 60, 61, 62, 67, 68, 69, 70, 71, 72, 73, 74, 75] (by decide +kernel) (by decide +kernel)) (goodIn_sub (fun _ h => List.mem_cons_of_mem _ (List.mem_append_right _ h)) (by decide +kernel))
set_option maxRecDepth 20000 in
theorem gX6_rock_X6_checkBare : GoodIn wsX6_rock (wsV RX6 65 RX6 yX6_checkBare wsX6_checkBare) := goodIn_app (goodIn_of _ (by decide +kernel)) ggX6_rock_X6_checkBare
set_option maxRecDepth 20000 in
theorem ggX6_rock_X6_spend : GoodIn wsX6_rock wsX6_spend := goodIn_ca (goodIn_r _ [45, 28, 29, 2, 3, 56, 57, 58, 59, 60, 61, 62, 63, 64, 65, 66] (by decide +kernel) (by decide +kernel)) (goodIn_sub (fun _ h => List.mem_cons_of_mem _ (List.mem_append_right _ h)) (by decide +kernel))
set_option maxRecDepth 20000 in
theorem gX6_rock_X6_spend : GoodIn wsX6_rock (wsV RX6 69 RX6 yX6_spend wsX6_spend) := goodIn_app (goodIn_of _ (by decide +kernel)) ggX6_rock_X6_spend
set_option maxRecDepth 20000 in
theorem ggX6_rock_X1_setRock : GoodIn wsX6_rock wsX1_setRock := goodIn_r _ [49, 50, 51, 52, 13, 53, 38, 54, 55, 39, 40, 41, 67, 68, 69, 70, 71, 72, 73, 74, 75] (by decide +kernel) (by decide +kernel)
set_option maxRecDepth 20000 in
theorem gX6_rock_X1_setRock : GoodIn wsX6_rock (wsV RX6 72 RX1 yX1_setRock wsX1_setRock) := goodIn_app (goodIn_of _ (by decide +kernel)) ggX6_rock_X1_setRock
theorem dX6_rock_0 : decode cX6_rock 0 = .ok (.aload_n 0, 1) := by decide +kernel
theorem dX6_rock_1 : decode cX6_rock 1 = .ok (.iload_n 1, 1) := by decide +kernel
theorem dX6_rock_2 : decode cX6_rock 2 = .ok (.iload_n 2, 1) := by decide +kernel
theorem dX6_rock_3 : decode cX6_rock 3 = .ok (.invokevirtual 54, 3) := by decide +kernel
theorem dX6_rock_6 : decode cX6_rock 6 = .ok (.aload_n 0, 1) := by decide +kernel
theorem dX6_rock_7 : decode cX6_rock 7 = .ok (.iload_n 3, 1) := by decide +kernel
theorem dX6_rock_8 : decode cX6_rock 8 = .ok (.iload 4, 2) := by decide +kernel
theorem dX6_rock_10 : decode cX6_rock 10 = .ok (.invokevirtual 58, 3) := by decide +kernel
theorem dX6_rock_13 : decode cX6_rock 13 = .ok (.iload_n 1, 1) := by decide +kernel
theorem dX6_rock_14 : decode cX6_rock 14 = .ok (.iload_n 2, 1) := by decide +kernel
theorem dX6_rock_15 : decode cX6_rock 15 = .ok (.invokestatic 61, 3) := by decide +kernel
theorem dX6_rock_18 : decode cX6_rock 18 = .ok (.istore 5, 2) := by decide +kernel
theorem dX6_rock_20 : decode cX6_rock 20 = .ok (.aload_n 0, 1) := by decide +kernel
theorem dX6_rock_21 : decode cX6_rock 21 = .ok (.iload 5, 2) := by decide +kernel
theorem dX6_rock_23 : decode cX6_rock 23 = .ok (.invokevirtual 65, 3) := by decide +kernel
theorem dX6_rock_26 : decode cX6_rock 26 = .ok (.aload_n 0, 1) := by decide +kernel
theorem dX6_rock_27 : decode cX6_rock 27 = .ok (.iconst 2, 1) := by decide +kernel
theorem dX6_rock_28 : decode cX6_rock 28 = .ok (.iload 4, 2) := by decide +kernel
theorem dX6_rock_30 : decode cX6_rock 30 = .ok (.imul, 1) := by decide +kernel
theorem dX6_rock_31 : decode cX6_rock 31 = .ok (.invokevirtual 69, 3) := by decide +kernel
theorem dX6_rock_34 : decode cX6_rock 34 = .ok (.aload_n 0, 1) := by decide +kernel
theorem dX6_rock_35 : decode cX6_rock 35 = .ok (.getfield 10, 3) := by decide +kernel
theorem dX6_rock_38 : decode cX6_rock 38 = .ok (.iload 5, 2) := by decide +kernel
theorem dX6_rock_40 : decode cX6_rock 40 = .ok (.iload_n 3, 1) := by decide +kernel
theorem dX6_rock_41 : decode cX6_rock 41 = .ok (.iload 4, 2) := by decide +kernel
theorem dX6_rock_43 : decode cX6_rock 43 = .ok (.invokevirtual 72, 3) := by decide +kernel
theorem dX6_rock_46 : decode cX6_rock 46 = .ok (.aload_n 0, 1) := by decide +kernel
theorem dX6_rock_47 : decode cX6_rock 47 = .ok (.getfield 40, 3) := by decide +kernel
theorem dX6_rock_50 : decode cX6_rock 50 = .ok (.getfield 76, 3) := by decide +kernel
theorem dX6_rock_53 : decode cX6_rock 53 = .ok (.ireturn, 1) := by decide +kernel
set_option maxRecDepth 20000 in
theorem ggX6_dig_X6_checkPlace : GoodIn wsX6_dig wsX6_checkPlace := goodIn_ca (goodIn_r _ [6, 7, 8, 9, 10, 11, 12] (by decide +kernel) (by decide +kernel)) (goodIn_sub (fun _ h => List.mem_cons_of_mem _ (List.mem_append_left _ (List.mem_append_right _ h))) (by decide +kernel))
set_option maxRecDepth 20000 in
theorem gX6_dig_X6_checkPlace : GoodIn wsX6_dig (wsV RX6 54 RX6 yX6_checkPlace wsX6_checkPlace) := goodIn_app (goodIn_of _ (by decide +kernel)) ggX6_dig_X6_checkPlace
set_option maxRecDepth 20000 in
theorem ggX6_dig_X1_numberOf : GoodIn wsX6_dig wsX1_numberOf := goodIn_r _ [15] (by decide +kernel) (by decide +kernel)
set_option maxRecDepth 20000 in
theorem gX6_dig_X1_numberOf : GoodIn wsX6_dig (va_wsS RX6 61 yX1_numberOf wsX1_numberOf) := goodIn_app (goodIn_of _ (by decide +kernel)) ggX6_dig_X1_numberOf
set_option maxRecDepth 20000 in
theorem ggX6_dig_X6_checkBare : GoodIn wsX6_dig wsX6_checkBare := goodIn_ca (goodIn_r _ [19, 20, 21, 1, 22, 23, 24, 11, 25, 26, 27, 28, 29, 30, 31, 32, 33, 91, 92, 93, 94, 95, 96, 97, 98, 99, 100, 101, 102, 103, 104, 105, 106] (by decide +kernel) (by decide +kernel)) (goodIn_sub (fun _ h => List.mem_cons_of_mem _ (List.mem_append_right _ h)) (by decide +kernel))
set_option maxRecDepth 20000 in
theorem gX6_dig_X6_checkBare : GoodIn wsX6_dig (wsV RX6 65 RX6 yX6_checkBare wsX6_checkBare) := goodIn_app (goodIn_of _ (by decide +kernel)) ggX6_dig_X6_checkBare
set_option maxRecDepth 20000 in
theorem ggX6_dig_X6_spend : GoodIn wsX6_dig wsX6_spend := goodIn_ca (goodIn_r _ [37, 20, 21, 38, 39, 91, 92, 93, 94, 95, 96, 97, 107, 108, 109, 110] (by decide +kernel) (by decide +kernel)) (goodIn_sub (fun _ h => List.mem_cons_of_mem _ (List.mem_append_right _ h)) (by decide +kernel))
set_option maxRecDepth 20000 in
theorem gX6_dig_X6_spend : GoodIn wsX6_dig (wsV RX6 69 RX6 yX6_spend wsX6_spend) := goodIn_app (goodIn_of _ (by decide +kernel)) ggX6_dig_X6_spend
set_option maxRecDepth 20000 in
theorem ggX6_dig_X1_setPond : GoodIn wsX6_dig wsX1_setPond := goodIn_r _ [43, 44, 45, 46, 11, 47, 30, 48, 49, 31, 32, 33, 50, 51, 52, 53, 54, 55, 56, 57, 58, 59, 60, 61, 62, 63, 64, 65, 66, 67, 68, 69, 70, 71, 72, 73, 74, 75, 76, 77, 78, 79, 80, 81, 10, 12, 82, 14, 15, 98, 99, 100, 101, 102, 103, 104, 105, 106] (by decide +kernel) (by decide +kernel)
set_option maxRecDepth 20000 in
theorem gX6_dig_X1_setPond : GoodIn wsX6_dig (wsV RX6 80 RX1 yX1_setPond wsX1_setPond) := goodIn_app (goodIn_of _ (by decide +kernel)) ggX6_dig_X1_setPond
set_option maxRecDepth 20000 in
theorem ggX6_dig_X1_cellsOfPondAt : GoodIn wsX6_dig wsX1_cellsOfPondAt := goodIn_r _ [86, 64, 87, 88, 89, 11, 90, 54, 31, 32, 33, 98, 99, 100, 101, 102, 103, 104, 105, 106] (by decide +kernel) (by decide +kernel)
set_option maxRecDepth 20000 in
theorem gX6_dig_X1_cellsOfPondAt : GoodIn wsX6_dig (wsV RX6 83 RX1 yX1_cellsOfPondAt wsX1_cellsOfPondAt) := goodIn_app (goodIn_of _ (by decide +kernel)) ggX6_dig_X1_cellsOfPondAt
theorem dX6_dig_0 : decode cX6_dig 0 = .ok (.aload_n 0, 1) := by decide +kernel
theorem dX6_dig_1 : decode cX6_dig 1 = .ok (.iload_n 1, 1) := by decide +kernel
theorem dX6_dig_2 : decode cX6_dig 2 = .ok (.iload_n 2, 1) := by decide +kernel
theorem dX6_dig_3 : decode cX6_dig 3 = .ok (.invokevirtual 54, 3) := by decide +kernel
theorem dX6_dig_6 : decode cX6_dig 6 = .ok (.iload_n 1, 1) := by decide +kernel
theorem dX6_dig_7 : decode cX6_dig 7 = .ok (.iload_n 2, 1) := by decide +kernel
theorem dX6_dig_8 : decode cX6_dig 8 = .ok (.invokestatic 61, 3) := by decide +kernel
theorem dX6_dig_11 : decode cX6_dig 11 = .ok (.istore_n 3, 1) := by decide +kernel
theorem dX6_dig_12 : decode cX6_dig 12 = .ok (.aload_n 0, 1) := by decide +kernel
theorem dX6_dig_13 : decode cX6_dig 13 = .ok (.iload_n 3, 1) := by decide +kernel
theorem dX6_dig_14 : decode cX6_dig 14 = .ok (.invokevirtual 65, 3) := by decide +kernel
theorem dX6_dig_17 : decode cX6_dig 17 = .ok (.aload_n 0, 1) := by decide +kernel
theorem dX6_dig_18 : decode cX6_dig 18 = .ok (.bipush 6, 2) := by decide +kernel
theorem dX6_dig_20 : decode cX6_dig 20 = .ok (.invokevirtual 69, 3) := by decide +kernel
theorem dX6_dig_23 : decode cX6_dig 23 = .ok (.aload_n 0, 1) := by decide +kernel
theorem dX6_dig_24 : decode cX6_dig 24 = .ok (.getfield 10, 3) := by decide +kernel
theorem dX6_dig_27 : decode cX6_dig 27 = .ok (.iload_n 3, 1) := by decide +kernel
theorem dX6_dig_28 : decode cX6_dig 28 = .ok (.invokevirtual 80, 3) := by decide +kernel
theorem dX6_dig_31 : decode cX6_dig 31 = .ok (.aload_n 0, 1) := by decide +kernel
theorem dX6_dig_32 : decode cX6_dig 32 = .ok (.getfield 10, 3) := by decide +kernel
theorem dX6_dig_35 : decode cX6_dig 35 = .ok (.iload_n 3, 1) := by decide +kernel
theorem dX6_dig_36 : decode cX6_dig 36 = .ok (.invokevirtual 83, 3) := by decide +kernel
theorem dX6_dig_39 : decode cX6_dig 39 = .ok (.ireturn, 1) := by decide +kernel
set_option maxRecDepth 20000 in
theorem ggX6_wall_X6_checkPlace : GoodIn wsX6_wall wsX6_checkPlace := goodIn_ca (goodIn_r _ [8, 9, 10, 11, 12, 13, 14] (by decide +kernel) (by decide +kernel)) (goodIn_sub (fun _ h => List.mem_cons_of_mem _ (List.mem_append_left _ (List.mem_append_right _ h))) (by decide +kernel))
set_option maxRecDepth 20000 in
theorem gX6_wall_X6_checkPlace : GoodIn wsX6_wall (wsV RX6 54 RX6 yX6_checkPlace wsX6_checkPlace) := goodIn_app (goodIn_of _ (by decide +kernel)) ggX6_wall_X6_checkPlace
set_option maxRecDepth 20000 in
theorem ggX6_wall_X1_numberOf : GoodIn wsX6_wall wsX1_numberOf := goodIn_r _ [17] (by decide +kernel) (by decide +kernel)
set_option maxRecDepth 20000 in
theorem gX6_wall_X1_numberOf : GoodIn wsX6_wall (va_wsS RX6 61 yX1_numberOf wsX1_numberOf) := goodIn_app (goodIn_of _ (by decide +kernel)) ggX6_wall_X1_numberOf
set_option maxRecDepth 20000 in
theorem ggX6_wall_X6_checkBare : GoodIn wsX6_wall wsX6_checkBare := goodIn_ca (goodIn_r _ [21, 22, 23, 1, 24, 25, 26, 13, 27, 28, 29, 30, 31, 32, 33, 34, 35, 50, 51, 52, 53, 54, 55, 56, 61, 62, 63, 64, 65, 66, 67, 68, 69] (by decide +kernel) (by decide +kernel)) (goodIn_sub (fun _ h => List.mem_cons_of_mem _ (List.mem_append_right _ h)) (by decide +kernel))
set_option maxRecDepth 20000 in
theorem gX6_wall_X6_checkBare : GoodIn wsX6_wall (wsV RX6 65 RX6 yX6_checkBare wsX6_checkBare) := goodIn_app (goodIn_of _ (by decide +kernel)) ggX6_wall_X6_checkBare
set_option maxRecDepth 20000 in
theorem ggX6_wall_X6_spend : GoodIn wsX6_wall wsX6_spend := goodIn_ca (goodIn_r _ [39, 22, 23, 2, 3, 50, 51, 52, 53, 54, 55, 56, 57, 58, 59, 60] (by decide +kernel) (by decide +kernel)) (goodIn_sub (fun _ h => List.mem_cons_of_mem _ (List.mem_append_right _ h)) (by decide +kernel))
set_option maxRecDepth 20000 in
theorem gX6_wall_X6_spend : GoodIn wsX6_wall (wsV RX6 69 RX6 yX6_spend wsX6_spend) := goodIn_app (goodIn_of _ (by decide +kernel)) ggX6_wall_X6_spend
set_option maxRecDepth 20000 in
theorem ggX6_wall_X1_setWall : GoodIn wsX6_wall wsX1_setWall := goodIn_r _ [43, 44, 45, 46, 13, 47, 32, 48, 49, 33, 34, 35, 61, 62, 63, 64, 65, 66, 67, 68, 69] (by decide +kernel) (by decide +kernel)
set_option maxRecDepth 20000 in
theorem gX6_wall_X1_setWall : GoodIn wsX6_wall (wsV RX6 87 RX1 yX1_setWall wsX1_setWall) := goodIn_app (goodIn_of _ (by decide +kernel)) ggX6_wall_X1_setWall
theorem dX6_wall_0 : decode cX6_wall 0 = .ok (.aload_n 0, 1) := by decide +kernel
theorem dX6_wall_1 : decode cX6_wall 1 = .ok (.iload_n 1, 1) := by decide +kernel
theorem dX6_wall_2 : decode cX6_wall 2 = .ok (.iload_n 2, 1) := by decide +kernel
theorem dX6_wall_3 : decode cX6_wall 3 = .ok (.invokevirtual 54, 3) := by decide +kernel
theorem dX6_wall_6 : decode cX6_wall 6 = .ok (.iload_n 1, 1) := by decide +kernel
theorem dX6_wall_7 : decode cX6_wall 7 = .ok (.iload_n 2, 1) := by decide +kernel
theorem dX6_wall_8 : decode cX6_wall 8 = .ok (.invokestatic 61, 3) := by decide +kernel
theorem dX6_wall_11 : decode cX6_wall 11 = .ok (.istore_n 3, 1) := by decide +kernel
theorem dX6_wall_12 : decode cX6_wall 12 = .ok (.aload_n 0, 1) := by decide +kernel
theorem dX6_wall_13 : decode cX6_wall 13 = .ok (.iload_n 3, 1) := by decide +kernel
theorem dX6_wall_14 : decode cX6_wall 14 = .ok (.invokevirtual 65, 3) := by decide +kernel
theorem dX6_wall_17 : decode cX6_wall 17 = .ok (.aload_n 0, 1) := by decide +kernel
theorem dX6_wall_18 : decode cX6_wall 18 = .ok (.iconst 3, 1) := by decide +kernel
theorem dX6_wall_19 : decode cX6_wall 19 = .ok (.invokevirtual 69, 3) := by decide +kernel
theorem dX6_wall_22 : decode cX6_wall 22 = .ok (.aload_n 0, 1) := by decide +kernel
theorem dX6_wall_23 : decode cX6_wall 23 = .ok (.getfield 10, 3) := by decide +kernel
theorem dX6_wall_26 : decode cX6_wall 26 = .ok (.iload_n 3, 1) := by decide +kernel
theorem dX6_wall_27 : decode cX6_wall 27 = .ok (.invokevirtual 87, 3) := by decide +kernel
theorem dX6_wall_30 : decode cX6_wall 30 = .ok (.aload_n 0, 1) := by decide +kernel
theorem dX6_wall_31 : decode cX6_wall 31 = .ok (.getfield 40, 3) := by decide +kernel
theorem dX6_wall_34 : decode cX6_wall 34 = .ok (.getfield 76, 3) := by decide +kernel
theorem dX6_wall_37 : decode cX6_wall 37 = .ok (.ireturn, 1) := by decide +kernel
set_option maxRecDepth 20000 in
theorem ggX6_clear_X6_checkPlace : GoodIn wsX6_clear wsX6_checkPlace := goodIn_ca (goodIn_r _ [10, 11, 12, 13, 14, 15, 16] (by decide +kernel) (by decide +kernel)) (goodIn_sub (fun _ h => List.mem_cons_of_mem _ (List.mem_append_right _ h)) (by decide +kernel))
set_option maxRecDepth 20000 in
theorem gX6_clear_X6_checkPlace : GoodIn wsX6_clear (wsV RX6 54 RX6 yX6_checkPlace wsX6_checkPlace) := goodIn_app (goodIn_of _ (by decide +kernel)) ggX6_clear_X6_checkPlace
set_option maxRecDepth 20000 in
theorem ggX6_clear_X1_numberOf : GoodIn wsX6_clear wsX1_numberOf := goodIn_r _ [19] (by decide +kernel) (by decide +kernel)
set_option maxRecDepth 20000 in
theorem gX6_clear_X1_numberOf : GoodIn wsX6_clear (va_wsS RX6 61 yX1_numberOf wsX1_numberOf) := goodIn_app (goodIn_of _ (by decide +kernel)) ggX6_clear_X1_numberOf
set_option maxRecDepth 20000 in
theorem ggX6_clear_X1_isBare : GoodIn wsX6_clear wsX1_isBare := goodIn_r _ [23, 24, 25, 26, 15, 27, 28, 29, 30, 31, 98, 99, 100, 101, 102, 103, 104, 105, 106] (by decide +kernel) (by decide +kernel)
set_option maxRecDepth 20000 in
theorem gX6_clear_X1_isBare : GoodIn wsX6_clear (wsV RX6 90 RX1 yX1_isBare wsX1_isBare) := goodIn_app (goodIn_of _ (by decide +kernel)) ggX6_clear_X1_isBare
set_option maxRecDepth 20000 in
theorem ggX6_clear_X1_hasCarps : GoodIn wsX6_clear wsX1_hasCarps := goodIn_r _ [35, 36, 29, 30, 15, 31, 98, 99, 100, 101, 102, 103, 104, 105, 106] (by decide +kernel) (by decide +kernel)
set_option maxRecDepth 20000 in
theorem gX6_clear_X1_hasCarps : GoodIn wsX6_clear (wsV RX6 101 RX1 yX1_hasCarps wsX1_hasCarps) := goodIn_app (goodIn_of _ (by decide +kernel)) ggX6_clear_X1_hasCarps
set_option maxRecDepth 20000 in
theorem ggX6_clear_X1_sizeAt : GoodIn wsX6_clear wsX1_sizeAt := goodIn_r _ [40, 41, 29, 30, 15, 31, 98, 99, 100, 101, 102, 103, 104, 105, 106] (by decide +kernel) (by decide +kernel)
set_option maxRecDepth 20000 in
theorem gX6_clear_X1_sizeAt : GoodIn wsX6_clear (wsV RX6 106 RX1 yX1_sizeAt wsX1_sizeAt) := goodIn_app (goodIn_of _ (by decide +kernel)) ggX6_clear_X1_sizeAt
set_option maxRecDepth 20000 in
theorem ggX6_clear_X1_setBare : GoodIn wsX6_clear wsX1_setBare := goodIn_r _ [45, 46, 47, 48, 15, 49, 24, 25, 26, 27, 28, 29, 30, 31, 50, 51, 52, 53, 54, 41, 55, 56, 57, 58, 59, 60, 61, 62, 63, 64, 65, 66, 67, 68, 69, 70, 71, 36, 72, 73, 74, 75, 76, 77, 78, 79, 80, 81, 82, 83, 84, 85, 14, 16, 86, 18, 19, 98, 99, 100, 101, 102, 103, 104, 105, 106] (by decide +kernel) (by decide +kernel)
set_option maxRecDepth 20000 in
theorem gX6_clear_X1_setBare : GoodIn wsX6_clear (wsV RX6 109 RX1 yX1_setBare wsX1_setBare) := goodIn_app (goodIn_of _ (by decide +kernel)) ggX6_clear_X1_setBare
theorem dX6_clear_0 : decode cX6_clear 0 = .ok (.aload_n 0, 1) := by decide +kernel
theorem dX6_clear_1 : decode cX6_clear 1 = .ok (.iload_n 1, 1) := by decide +kernel
theorem dX6_clear_2 : decode cX6_clear 2 = .ok (.iload_n 2, 1) := by decide +kernel
theorem dX6_clear_3 : decode cX6_clear 3 = .ok (.invokevirtual 54, 3) := by decide +kernel
theorem dX6_clear_6 : decode cX6_clear 6 = .ok (.iload_n 1, 1) := by decide +kernel
theorem dX6_clear_7 : decode cX6_clear 7 = .ok (.iload_n 2, 1) := by decide +kernel
theorem dX6_clear_8 : decode cX6_clear 8 = .ok (.invokestatic 61, 3) := by decide +kernel
theorem dX6_clear_11 : decode cX6_clear 11 = .ok (.istore_n 3, 1) := by decide +kernel
theorem dX6_clear_12 : decode cX6_clear 12 = .ok (.aload_n 0, 1) := by decide +kernel
theorem dX6_clear_13 : decode cX6_clear 13 = .ok (.getfield 10, 3) := by decide +kernel
theorem dX6_clear_16 : decode cX6_clear 16 = .ok (.iload_n 3, 1) := by decide +kernel
theorem dX6_clear_17 : decode cX6_clear 17 = .ok (.invokevirtual 90, 3) := by decide +kernel
theorem dX6_clear_20 : decode cX6_clear 20 = .ok (.ifCond .eq 13, 3) := by decide +kernel
theorem dX6_clear_23 : decode cX6_clear 23 = .ok (.new 94, 3) := by decide +kernel
theorem dX6_clear_26 : decode cX6_clear 26 = .ok (.dup, 1) := by decide +kernel
theorem dX6_clear_27 : decode cX6_clear 27 = .ok (.ldc 96, 2) := by decide +kernel
theorem dX6_clear_29 : decode cX6_clear 29 = .ok (.invokespecial 98, 3) := by decide +kernel
theorem dX6_clear_32 : decode cX6_clear 32 = .ok (.athrow, 1) := by decide +kernel
theorem dX6_clear_33 : decode cX6_clear 33 = .ok (.aload_n 0, 1) := by decide +kernel
theorem dX6_clear_34 : decode cX6_clear 34 = .ok (.getfield 10, 3) := by decide +kernel
theorem dX6_clear_37 : decode cX6_clear 37 = .ok (.iload_n 3, 1) := by decide +kernel
theorem dX6_clear_38 : decode cX6_clear 38 = .ok (.invokevirtual 101, 3) := by decide +kernel
theorem dX6_clear_41 : decode cX6_clear 41 = .ok (.ifCond .eq 13, 3) := by decide +kernel
theorem dX6_clear_44 : decode cX6_clear 44 = .ok (.new 94, 3) := by decide +kernel
theorem dX6_clear_47 : decode cX6_clear 47 = .ok (.dup, 1) := by decide +kernel
theorem dX6_clear_48 : decode cX6_clear 48 = .ok (.ldc 104, 2) := by decide +kernel
theorem dX6_clear_50 : decode cX6_clear 50 = .ok (.invokespecial 98, 3) := by decide +kernel
theorem dX6_clear_53 : decode cX6_clear 53 = .ok (.athrow, 1) := by decide +kernel
theorem dX6_clear_54 : decode cX6_clear 54 = .ok (.aload_n 0, 1) := by decide +kernel
theorem dX6_clear_55 : decode cX6_clear 55 = .ok (.getfield 40, 3) := by decide +kernel
theorem dX6_clear_58 : decode cX6_clear 58 = .ok (.dup, 1) := by decide +kernel
theorem dX6_clear_59 : decode cX6_clear 59 = .ok (.getfield 76, 3) := by decide +kernel
theorem dX6_clear_62 : decode cX6_clear 62 = .ok (.aload_n 0, 1) := by decide +kernel
theorem dX6_clear_63 : decode cX6_clear 63 = .ok (.getfield 10, 3) := by decide +kernel
theorem dX6_clear_66 : decode cX6_clear 66 = .ok (.iload_n 3, 1) := by decide +kernel
theorem dX6_clear_67 : decode cX6_clear 67 = .ok (.invokevirtual 106, 3) := by decide +kernel
theorem dX6_clear_70 : decode cX6_clear 70 = .ok (.iadd, 1) := by decide +kernel
theorem dX6_clear_71 : decode cX6_clear 71 = .ok (.putfield 76, 3) := by decide +kernel
theorem dX6_clear_74 : decode cX6_clear 74 = .ok (.aload_n 0, 1) := by decide +kernel
theorem dX6_clear_75 : decode cX6_clear 75 = .ok (.getfield 10, 3) := by decide +kernel
theorem dX6_clear_78 : decode cX6_clear 78 = .ok (.iload_n 3, 1) := by decide +kernel
theorem dX6_clear_79 : decode cX6_clear 79 = .ok (.invokevirtual 109, 3) := by decide +kernel
theorem dX6_clear_82 : decode cX6_clear 82 = .ok (.aload_n 0, 1) := by decide +kernel
theorem dX6_clear_83 : decode cX6_clear 83 = .ok (.getfield 40, 3) := by decide +kernel
theorem dX6_clear_86 : decode cX6_clear 86 = .ok (.getfield 76, 3) := by decide +kernel
theorem dX6_clear_89 : decode cX6_clear 89 = .ok (.ireturn, 1) := by decide +kernel
set_option maxRecDepth 20000 in
theorem ggX6_cell_X6_checkPlace : GoodIn wsX6_cell wsX6_checkPlace := goodIn_ca (goodIn_r _ [6, 7, 8, 9, 10, 11, 12] (by decide +kernel) (by decide +kernel)) (goodIn_sub (fun _ h => List.mem_cons_of_mem _ (List.mem_append_right _ h)) (by decide +kernel))
set_option maxRecDepth 20000 in
theorem gX6_cell_X6_checkPlace : GoodIn wsX6_cell (wsV RX6 54 RX6 yX6_checkPlace wsX6_checkPlace) := goodIn_app (goodIn_of _ (by decide +kernel)) ggX6_cell_X6_checkPlace
set_option maxRecDepth 20000 in
theorem ggX6_cell_X6_checkWhat : GoodIn wsX6_cell wsX6_checkWhat := goodIn_ca (goodIn_r _ [16, 7, 8] (by decide +kernel) (by decide +kernel)) (goodIn_sub (fun _ h => List.mem_cons_of_mem _ (List.mem_append_right _ h)) (by decide +kernel))
set_option maxRecDepth 20000 in
theorem gX6_cell_X6_checkWhat : GoodIn wsX6_cell (wsV RX6 112 RX6 yX6_checkWhat wsX6_checkWhat) := goodIn_app (goodIn_of _ (by decide +kernel)) ggX6_cell_X6_checkWhat
set_option maxRecDepth 20000 in
theorem ggX6_cell_X1_numberOf : GoodIn wsX6_cell wsX1_numberOf := goodIn_r _ [19] (by decide +kernel) (by decide +kernel)
set_option maxRecDepth 20000 in
theorem gX6_cell_X1_numberOf : GoodIn wsX6_cell (va_wsS RX6 61 yX1_numberOf wsX1_numberOf) := goodIn_app (goodIn_of _ (by decide +kernel)) ggX6_cell_X1_numberOf
set_option maxRecDepth 20000 in
theorem ggX6_cell_X1_kindAt : GoodIn wsX6_cell wsX1_kindAt := goodIn_r _ [23, 24, 25, 26, 11, 27, 60, 61, 62, 63, 64, 65, 66, 67, 68] (by decide +kernel) (by decide +kernel)
set_option maxRecDepth 20000 in
theorem gX6_cell_X1_kindAt : GoodIn wsX6_cell (wsV RX6 115 RX1 yX1_kindAt wsX1_kindAt) := goodIn_app (goodIn_of _ (by decide +kernel)) ggX6_cell_X1_kindAt
set_option maxRecDepth 20000 in
theorem ggX6_cell_X1_shapeAt : GoodIn wsX6_cell wsX1_shapeAt := goodIn_r _ [31, 32, 25, 26, 11, 27, 60, 61, 62, 63, 64, 65, 66, 67, 68] (by decide +kernel) (by decide +kernel)
set_option maxRecDepth 20000 in
theorem gX6_cell_X1_shapeAt : GoodIn wsX6_cell (wsV RX6 118 RX1 yX1_shapeAt wsX1_shapeAt) := goodIn_app (goodIn_of _ (by decide +kernel)) ggX6_cell_X1_shapeAt
set_option maxRecDepth 20000 in
theorem ggX6_cell_X1_sizeAt : GoodIn wsX6_cell wsX1_sizeAt := goodIn_r _ [36, 37, 25, 26, 11, 27, 60, 61, 62, 63, 64, 65, 66, 67, 68] (by decide +kernel) (by decide +kernel)
set_option maxRecDepth 20000 in
theorem gX6_cell_X1_sizeAt : GoodIn wsX6_cell (wsV RX6 106 RX1 yX1_sizeAt wsX1_sizeAt) := goodIn_app (goodIn_of _ (by decide +kernel)) ggX6_cell_X1_sizeAt
set_option maxRecDepth 20000 in
theorem ggX6_cell_X1_cellsOfPondAt : GoodIn wsX6_cell wsX1_cellsOfPondAt := goodIn_r _ [41, 42, 43, 44, 45, 11, 46, 47, 25, 26, 27, 60, 61, 62, 63, 64, 65, 66, 67, 68] (by decide +kernel) (by decide +kernel)
set_option maxRecDepth 20000 in
theorem gX6_cell_X1_cellsOfPondAt : GoodIn wsX6_cell (wsV RX6 83 RX1 yX1_cellsOfPondAt wsX1_cellsOfPondAt) := goodIn_app (goodIn_of _ (by decide +kernel)) ggX6_cell_X1_cellsOfPondAt
set_option maxRecDepth 20000 in
theorem ggX6_cell_X1_carpsOfPondAt : GoodIn wsX6_cell wsX1_carpsOfPondAt := goodIn_r _ [51, 52, 43, 44, 45, 11, 46, 47, 25, 26, 27, 60, 61, 62, 63, 64, 65, 66, 67, 68] (by decide +kernel) (by decide +kernel)
set_option maxRecDepth 20000 in
theorem gX6_cell_X1_carpsOfPondAt : GoodIn wsX6_cell (wsV RX6 121 RX1 yX1_carpsOfPondAt wsX1_carpsOfPondAt) := goodIn_app (goodIn_of _ (by decide +kernel)) ggX6_cell_X1_carpsOfPondAt
theorem dX6_cell_0 : decode cX6_cell 0 = .ok (.aload_n 0, 1) := by decide +kernel
theorem dX6_cell_1 : decode cX6_cell 1 = .ok (.iload_n 1, 1) := by decide +kernel
theorem dX6_cell_2 : decode cX6_cell 2 = .ok (.iload_n 2, 1) := by decide +kernel
theorem dX6_cell_3 : decode cX6_cell 3 = .ok (.invokevirtual 54, 3) := by decide +kernel
theorem dX6_cell_6 : decode cX6_cell 6 = .ok (.aload_n 0, 1) := by decide +kernel
theorem dX6_cell_7 : decode cX6_cell 7 = .ok (.iload_n 3, 1) := by decide +kernel
theorem dX6_cell_8 : decode cX6_cell 8 = .ok (.iconst 5, 1) := by decide +kernel
theorem dX6_cell_9 : decode cX6_cell 9 = .ok (.invokevirtual 112, 3) := by decide +kernel
theorem dX6_cell_12 : decode cX6_cell 12 = .ok (.iload_n 1, 1) := by decide +kernel
theorem dX6_cell_13 : decode cX6_cell 13 = .ok (.iload_n 2, 1) := by decide +kernel
theorem dX6_cell_14 : decode cX6_cell 14 = .ok (.invokestatic 61, 3) := by decide +kernel
theorem dX6_cell_17 : decode cX6_cell 17 = .ok (.istore 4, 2) := by decide +kernel
theorem dX6_cell_19 : decode cX6_cell 19 = .ok (.iload_n 3, 1) := by decide +kernel
theorem dX6_cell_20 : decode cX6_cell 20 = .ok (.tableswitch 72 0 3 #[32, 42, 52, 62], 32) := by decide +kernel
theorem dX6_cell_52 : decode cX6_cell 52 = .ok (.aload_n 0, 1) := by decide +kernel
theorem dX6_cell_53 : decode cX6_cell 53 = .ok (.getfield 10, 3) := by decide +kernel
theorem dX6_cell_56 : decode cX6_cell 56 = .ok (.iload 4, 2) := by decide +kernel
theorem dX6_cell_58 : decode cX6_cell 58 = .ok (.invokevirtual 115, 3) := by decide +kernel
theorem dX6_cell_61 : decode cX6_cell 61 = .ok (.ireturn, 1) := by decide +kernel
theorem dX6_cell_62 : decode cX6_cell 62 = .ok (.aload_n 0, 1) := by decide +kernel
theorem dX6_cell_63 : decode cX6_cell 63 = .ok (.getfield 10, 3) := by decide +kernel
theorem dX6_cell_66 : decode cX6_cell 66 = .ok (.iload 4, 2) := by decide +kernel
theorem dX6_cell_68 : decode cX6_cell 68 = .ok (.invokevirtual 118, 3) := by decide +kernel
theorem dX6_cell_71 : decode cX6_cell 71 = .ok (.ireturn, 1) := by decide +kernel
theorem dX6_cell_72 : decode cX6_cell 72 = .ok (.aload_n 0, 1) := by decide +kernel
theorem dX6_cell_73 : decode cX6_cell 73 = .ok (.getfield 10, 3) := by decide +kernel
theorem dX6_cell_76 : decode cX6_cell 76 = .ok (.iload 4, 2) := by decide +kernel
theorem dX6_cell_78 : decode cX6_cell 78 = .ok (.invokevirtual 106, 3) := by decide +kernel
theorem dX6_cell_81 : decode cX6_cell 81 = .ok (.ireturn, 1) := by decide +kernel
theorem dX6_cell_82 : decode cX6_cell 82 = .ok (.aload_n 0, 1) := by decide +kernel
theorem dX6_cell_83 : decode cX6_cell 83 = .ok (.getfield 10, 3) := by decide +kernel
theorem dX6_cell_86 : decode cX6_cell 86 = .ok (.iload 4, 2) := by decide +kernel
theorem dX6_cell_88 : decode cX6_cell 88 = .ok (.invokevirtual 83, 3) := by decide +kernel
theorem dX6_cell_91 : decode cX6_cell 91 = .ok (.ireturn, 1) := by decide +kernel
theorem dX6_cell_92 : decode cX6_cell 92 = .ok (.aload_n 0, 1) := by decide +kernel
theorem dX6_cell_93 : decode cX6_cell 93 = .ok (.getfield 10, 3) := by decide +kernel
theorem dX6_cell_96 : decode cX6_cell 96 = .ok (.iload 4, 2) := by decide +kernel
theorem dX6_cell_98 : decode cX6_cell 98 = .ok (.invokevirtual 121, 3) := by decide +kernel
theorem dX6_cell_101 : decode cX6_cell 101 = .ok (.ireturn, 1) := by decide +kernel
set_option maxRecDepth 20000 in
theorem ggX6_carp_X6_checkPlace : GoodIn wsX6_carp wsX6_checkPlace := goodIn_ca (goodIn_r _ [11, 12, 13, 14, 15, 16, 17] (by decide +kernel) (by decide +kernel)) (goodIn_sub (fun _ h => List.mem_cons_of_mem _ (List.mem_append_right _ h)) (by decide +kernel))
set_option maxRecDepth 20000 in
theorem gX6_carp_X6_checkPlace : GoodIn wsX6_carp (wsV RX6 54 RX6 yX6_checkPlace wsX6_checkPlace) := goodIn_app (goodIn_of _ (by decide +kernel)) ggX6_carp_X6_checkPlace
set_option maxRecDepth 20000 in
theorem ggX6_carp_X1_numberOf : GoodIn wsX6_carp wsX1_numberOf := goodIn_r _ [20] (by decide +kernel) (by decide +kernel)
set_option maxRecDepth 20000 in
theorem gX6_carp_X1_numberOf : GoodIn wsX6_carp (va_wsS RX6 61 yX1_numberOf wsX1_numberOf) := goodIn_app (goodIn_of _ (by decide +kernel)) ggX6_carp_X1_numberOf
set_option maxRecDepth 20000 in
theorem ggX6_carp_X1_isPond : GoodIn wsX6_carp wsX1_isPond := goodIn_r _ [24, 25, 26, 27, 16, 28, 29, 30, 31, 32, 80, 81, 82, 83, 84, 85, 86, 87, 88] (by decide +kernel) (by decide +kernel)
set_option maxRecDepth 20000 in
theorem gX6_carp_X1_isPond : GoodIn wsX6_carp (wsV RX6 124 RX1 yX1_isPond wsX1_isPond) := goodIn_app (goodIn_of _ (by decide +kernel)) ggX6_carp_X1_isPond
set_option maxRecDepth 20000 in
theorem ggX6_carp_X6_spend : GoodIn wsX6_carp wsX6_spend := goodIn_ca (goodIn_r _ [36, 1, 2, 6, 37, 70, 71, 72, 73, 74, 75, 76, 89, 90, 91, 92] (by decide +kernel) (by decide +kernel)) (goodIn_sub (fun _ h => List.mem_cons_of_mem _ (List.mem_append_left _ (List.mem_append_right _ h))) (by decide +kernel))
set_option maxRecDepth 20000 in
theorem gX6_carp_X6_spend : GoodIn wsX6_carp (wsV RX6 69 RX6 yX6_spend wsX6_spend) := goodIn_app (goodIn_of _ (by decide +kernel)) ggX6_carp_X6_spend
set_option maxRecDepth 20000 in
theorem ggX6_carp_X4_add : GoodIn wsX6_carp wsX4_add := goodIn_r _ [42, 43, 44, 45, 77, 78, 79] (by decide +kernel) (by decide +kernel)
set_option maxRecDepth 20000 in
theorem gX6_carp_X4_add : GoodIn wsX6_carp (wsV RX6 134 RX4 yX4_add wsX4_add) := goodIn_app (goodIn_of _ (by decide +kernel)) ggX6_carp_X4_add
set_option maxRecDepth 20000 in
theorem ggX6_carp_X0_setCarpSize : GoodIn wsX6_carp wsX0_setCarpSize := goodIn_r _ [50, 51, 52, 53, 54, 55, 56, 57, 58, 89, 90, 91, 92] (by decide +kernel) (by decide +kernel)
set_option maxRecDepth 20000 in
theorem gX6_carp_X0_setCarpSize : GoodIn wsX6_carp (wsV RX6 137 RX0 yX0_setCarpSize wsX0_setCarpSize) := goodIn_app (goodIn_of _ (by decide +kernel)) ggX6_carp_X0_setCarpSize
set_option maxRecDepth 20000 in
theorem ggX6_carp_X1_changeCarps : GoodIn wsX6_carp wsX1_changeCarps := goodIn_r _ [62, 63, 64, 65, 66, 67, 16, 68, 69, 30, 31, 32, 80, 81, 82, 83, 84, 85, 86, 87, 88] (by decide +kernel) (by decide +kernel)
set_option maxRecDepth 20000 in
theorem gX6_carp_X1_changeCarps : GoodIn wsX6_carp (wsV RX6 140 RX1 yX1_changeCarps wsX1_changeCarps) := goodIn_app (goodIn_of _ (by decide +kernel)) ggX6_carp_X1_changeCarps
theorem dX6_carp_0 : decode cX6_carp 0 = .ok (.aload_n 0, 1) := by decide +kernel
theorem dX6_carp_1 : decode cX6_carp 1 = .ok (.iload_n 1, 1) := by decide +kernel
theorem dX6_carp_2 : decode cX6_carp 2 = .ok (.iload_n 2, 1) := by decide +kernel
theorem dX6_carp_3 : decode cX6_carp 3 = .ok (.invokevirtual 54, 3) := by decide +kernel
theorem dX6_carp_6 : decode cX6_carp 6 = .ok (.iload_n 1, 1) := by decide +kernel
theorem dX6_carp_7 : decode cX6_carp 7 = .ok (.iload_n 2, 1) := by decide +kernel
theorem dX6_carp_8 : decode cX6_carp 8 = .ok (.invokestatic 61, 3) := by decide +kernel
theorem dX6_carp_11 : decode cX6_carp 11 = .ok (.istore_n 3, 1) := by decide +kernel
theorem dX6_carp_12 : decode cX6_carp 12 = .ok (.aload_n 0, 1) := by decide +kernel
theorem dX6_carp_13 : decode cX6_carp 13 = .ok (.getfield 10, 3) := by decide +kernel
theorem dX6_carp_16 : decode cX6_carp 16 = .ok (.iload_n 3, 1) := by decide +kernel
theorem dX6_carp_17 : decode cX6_carp 17 = .ok (.invokevirtual 124, 3) := by decide +kernel
theorem dX6_carp_20 : decode cX6_carp 20 = .ok (.ifCond .ne 13, 3) := by decide +kernel
theorem dX6_carp_23 : decode cX6_carp 23 = .ok (.new 94, 3) := by decide +kernel
theorem dX6_carp_26 : decode cX6_carp 26 = .ok (.dup, 1) := by decide +kernel
theorem dX6_carp_27 : decode cX6_carp 27 = .ok (.ldc 127, 2) := by decide +kernel
theorem dX6_carp_29 : decode cX6_carp 29 = .ok (.invokespecial 98, 3) := by decide +kernel
theorem dX6_carp_32 : decode cX6_carp 32 = .ok (.athrow, 1) := by decide +kernel
theorem dX6_carp_33 : decode cX6_carp 33 = .ok (.aload_n 0, 1) := by decide +kernel
theorem dX6_carp_34 : decode cX6_carp 34 = .ok (.getfield 19, 3) := by decide +kernel
theorem dX6_carp_37 : decode cX6_carp 37 = .ok (.getfield 129, 3) := by decide +kernel
theorem dX6_carp_40 : decode cX6_carp 40 = .ok (.bipush 30, 2) := by decide +kernel
theorem dX6_carp_42 : decode cX6_carp 42 = .ok (.if_icmp .lt 13, 3) := by decide +kernel
theorem dX6_carp_45 : decode cX6_carp 45 = .ok (.new 94, 3) := by decide +kernel
theorem dX6_carp_48 : decode cX6_carp 48 = .ok (.dup, 1) := by decide +kernel
theorem dX6_carp_49 : decode cX6_carp 49 = .ok (.ldc 132, 2) := by decide +kernel
theorem dX6_carp_51 : decode cX6_carp 51 = .ok (.invokespecial 98, 3) := by decide +kernel
theorem dX6_carp_54 : decode cX6_carp 54 = .ok (.athrow, 1) := by decide +kernel
theorem dX6_carp_55 : decode cX6_carp 55 = .ok (.aload_n 0, 1) := by decide +kernel
theorem dX6_carp_56 : decode cX6_carp 56 = .ok (.iconst 4, 1) := by decide +kernel
theorem dX6_carp_57 : decode cX6_carp 57 = .ok (.invokevirtual 69, 3) := by decide +kernel
theorem dX6_carp_60 : decode cX6_carp 60 = .ok (.aload_n 0, 1) := by decide +kernel
theorem dX6_carp_61 : decode cX6_carp 61 = .ok (.getfield 19, 3) := by decide +kernel
theorem dX6_carp_64 : decode cX6_carp 64 = .ok (.iload_n 3, 1) := by decide +kernel
theorem dX6_carp_65 : decode cX6_carp 65 = .ok (.invokevirtual 134, 3) := by decide +kernel
theorem dX6_carp_68 : decode cX6_carp 68 = .ok (.istore 4, 2) := by decide +kernel
theorem dX6_carp_70 : decode cX6_carp 70 = .ok (.aload_n 0, 1) := by decide +kernel
theorem dX6_carp_71 : decode cX6_carp 71 = .ok (.getfield 40, 3) := by decide +kernel
theorem dX6_carp_74 : decode cX6_carp 74 = .ok (.iload 4, 2) := by decide +kernel
theorem dX6_carp_76 : decode cX6_carp 76 = .ok (.iconst 1, 1) := by decide +kernel
theorem dX6_carp_77 : decode cX6_carp 77 = .ok (.invokevirtual 137, 3) := by decide +kernel
theorem dX6_carp_80 : decode cX6_carp 80 = .ok (.aload_n 0, 1) := by decide +kernel
theorem dX6_carp_81 : decode cX6_carp 81 = .ok (.getfield 10, 3) := by decide +kernel
theorem dX6_carp_84 : decode cX6_carp 84 = .ok (.iload_n 3, 1) := by decide +kernel
theorem dX6_carp_85 : decode cX6_carp 85 = .ok (.iconst 1, 1) := by decide +kernel
theorem dX6_carp_86 : decode cX6_carp 86 = .ok (.invokevirtual 140, 3) := by decide +kernel
theorem dX6_carp_89 : decode cX6_carp 89 = .ok (.iload 4, 2) := by decide +kernel
theorem dX6_carp_91 : decode cX6_carp 91 = .ok (.ireturn, 1) := by decide +kernel
set_option maxRecDepth 20000 in
theorem ggX6_sell_X6_checkCarp : GoodIn wsX6_sell wsX6_checkCarp := goodIn_ca (goodIn_r _ [11, 12, 13, 3, 14, 56, 57, 58, 59, 60, 61, 62, 67, 68, 69] (by decide +kernel) (by decide +kernel)) (goodIn_sub (fun _ h => List.mem_cons_of_mem _ (List.mem_append_right _ h)) (by decide +kernel))
set_option maxRecDepth 20000 in
theorem gX6_sell_X6_checkCarp : GoodIn wsX6_sell (wsV RX6 143 RX6 yX6_checkCarp wsX6_checkCarp) := goodIn_app (goodIn_of _ (by decide +kernel)) ggX6_sell_X6_checkCarp
set_option maxRecDepth 20000 in
theorem ggX6_sell_X4_isHere : GoodIn wsX6_sell wsX4_isHere := goodIn_r _ [19, 20, 21, 22, 23, 18, 24, 25, 67, 68, 69] (by decide +kernel) (by decide +kernel)
set_option maxRecDepth 20000 in
theorem gX6_sell_X4_isHere : GoodIn wsX6_sell (wsV RX6 146 RX4 yX4_isHere wsX4_isHere) := goodIn_app (goodIn_of _ (by decide +kernel)) ggX6_sell_X4_isHere
set_option maxRecDepth 20000 in
theorem ggX6_sell_X4_takeOut : GoodIn wsX6_sell wsX4_takeOut := goodIn_r _ [29, 20, 21, 22, 23, 18, 24, 25, 67, 68, 69] (by decide +kernel) (by decide +kernel)
set_option maxRecDepth 20000 in
theorem gX6_sell_X4_takeOut : GoodIn wsX6_sell (wsV RX6 151 RX4 yX4_takeOut wsX4_takeOut) := goodIn_app (goodIn_of _ (by decide +kernel)) ggX6_sell_X4_takeOut
set_option maxRecDepth 20000 in
theorem ggX6_sell_X4_placeOf : GoodIn wsX6_sell wsX4_placeOf := goodIn_r _ [33, 34, 21, 22, 23, 18, 24, 25, 67, 68, 69] (by decide +kernel) (by decide +kernel)
set_option maxRecDepth 20000 in
theorem gX6_sell_X4_placeOf : GoodIn wsX6_sell (wsV RX6 154 RX4 yX4_placeOf wsX4_placeOf) := goodIn_app (goodIn_of _ (by decide +kernel)) ggX6_sell_X4_placeOf
set_option maxRecDepth 20000 in
theorem ggX6_sell_X1_changeCarps : GoodIn wsX6_sell wsX1_changeCarps := goodIn_r _ [39, 40, 41, 42, 43, 44, 38, 45, 46, 47, 48, 49, 70, 71, 72, 73, 74, 75, 76, 77, 78] (by decide +kernel) (by decide +kernel)
set_option maxRecDepth 20000 in
theorem gX6_sell_X1_changeCarps : GoodIn wsX6_sell (wsV RX6 140 RX1 yX1_changeCarps wsX1_changeCarps) := goodIn_app (goodIn_of _ (by decide +kernel)) ggX6_sell_X1_changeCarps
set_option maxRecDepth 20000 in
theorem ggX6_sell_X0_carpSize : GoodIn wsX6_sell wsX0_carpSize := goodIn_r _ [54, 55, 63, 64, 65, 66] (by decide +kernel) (by decide +kernel)
set_option maxRecDepth 20000 in
theorem gX6_sell_X0_carpSize : GoodIn wsX6_sell (wsV RX6 157 RX0 yX0_carpSize wsX0_carpSize) := goodIn_app (goodIn_of _ (by decide +kernel)) ggX6_sell_X0_carpSize
theorem dX6_sell_0 : decode cX6_sell 0 = .ok (.aload_n 0, 1) := by decide +kernel
theorem dX6_sell_1 : decode cX6_sell 1 = .ok (.iload_n 1, 1) := by decide +kernel
theorem dX6_sell_2 : decode cX6_sell 2 = .ok (.invokevirtual 143, 3) := by decide +kernel
theorem dX6_sell_5 : decode cX6_sell 5 = .ok (.aload_n 0, 1) := by decide +kernel
theorem dX6_sell_6 : decode cX6_sell 6 = .ok (.getfield 19, 3) := by decide +kernel
theorem dX6_sell_9 : decode cX6_sell 9 = .ok (.iload_n 1, 1) := by decide +kernel
theorem dX6_sell_10 : decode cX6_sell 10 = .ok (.invokevirtual 146, 3) := by decide +kernel
theorem dX6_sell_13 : decode cX6_sell 13 = .ok (.ifCond .ne 13, 3) := by decide +kernel
theorem dX6_sell_16 : decode cX6_sell 16 = .ok (.new 94, 3) := by decide +kernel
theorem dX6_sell_19 : decode cX6_sell 19 = .ok (.dup, 1) := by decide +kernel
theorem dX6_sell_20 : decode cX6_sell 20 = .ok (.ldc 149, 2) := by decide +kernel
theorem dX6_sell_22 : decode cX6_sell 22 = .ok (.invokespecial 98, 3) := by decide +kernel
theorem dX6_sell_25 : decode cX6_sell 25 = .ok (.athrow, 1) := by decide +kernel
theorem dX6_sell_26 : decode cX6_sell 26 = .ok (.aload_n 0, 1) := by decide +kernel
theorem dX6_sell_27 : decode cX6_sell 27 = .ok (.getfield 19, 3) := by decide +kernel
theorem dX6_sell_30 : decode cX6_sell 30 = .ok (.iload_n 1, 1) := by decide +kernel
theorem dX6_sell_31 : decode cX6_sell 31 = .ok (.invokevirtual 151, 3) := by decide +kernel
theorem dX6_sell_34 : decode cX6_sell 34 = .ok (.aload_n 0, 1) := by decide +kernel
theorem dX6_sell_35 : decode cX6_sell 35 = .ok (.getfield 10, 3) := by decide +kernel
theorem dX6_sell_38 : decode cX6_sell 38 = .ok (.aload_n 0, 1) := by decide +kernel
theorem dX6_sell_39 : decode cX6_sell 39 = .ok (.getfield 19, 3) := by decide +kernel
theorem dX6_sell_42 : decode cX6_sell 42 = .ok (.iload_n 1, 1) := by decide +kernel
theorem dX6_sell_43 : decode cX6_sell 43 = .ok (.invokevirtual 154, 3) := by decide +kernel
theorem dX6_sell_46 : decode cX6_sell 46 = .ok (.iconst (-1), 1) := by decide +kernel
theorem dX6_sell_47 : decode cX6_sell 47 = .ok (.invokevirtual 140, 3) := by decide +kernel
theorem dX6_sell_50 : decode cX6_sell 50 = .ok (.aload_n 0, 1) := by decide +kernel
theorem dX6_sell_51 : decode cX6_sell 51 = .ok (.getfield 40, 3) := by decide +kernel
theorem dX6_sell_54 : decode cX6_sell 54 = .ok (.dup, 1) := by decide +kernel
theorem dX6_sell_55 : decode cX6_sell 55 = .ok (.getfield 76, 3) := by decide +kernel
theorem dX6_sell_58 : decode cX6_sell 58 = .ok (.aload_n 0, 1) := by decide +kernel
theorem dX6_sell_59 : decode cX6_sell 59 = .ok (.getfield 40, 3) := by decide +kernel
theorem dX6_sell_62 : decode cX6_sell 62 = .ok (.iload_n 1, 1) := by decide +kernel
theorem dX6_sell_63 : decode cX6_sell 63 = .ok (.invokevirtual 157, 3) := by decide +kernel
theorem dX6_sell_66 : decode cX6_sell 66 = .ok (.iconst 2, 1) := by decide +kernel
theorem dX6_sell_67 : decode cX6_sell 67 = .ok (.idiv, 1) := by decide +kernel
theorem dX6_sell_68 : decode cX6_sell 68 = .ok (.iconst 1, 1) := by decide +kernel
theorem dX6_sell_69 : decode cX6_sell 69 = .ok (.iadd, 1) := by decide +kernel
theorem dX6_sell_70 : decode cX6_sell 70 = .ok (.iadd, 1) := by decide +kernel
theorem dX6_sell_71 : decode cX6_sell 71 = .ok (.putfield 76, 3) := by decide +kernel
theorem dX6_sell_74 : decode cX6_sell 74 = .ok (.aload_n 0, 1) := by decide +kernel
theorem dX6_sell_75 : decode cX6_sell 75 = .ok (.getfield 40, 3) := by decide +kernel
theorem dX6_sell_78 : decode cX6_sell 78 = .ok (.getfield 76, 3) := by decide +kernel
theorem dX6_sell_81 : decode cX6_sell 81 = .ok (.ireturn, 1) := by decide +kernel
set_option maxRecDepth 20000 in
theorem ggX6_told_X6_checkCarp : GoodIn wsX6_told wsX6_checkCarp := goodIn_ca (goodIn_r _ [7, 8, 9, 1, 10, 41, 42, 43, 44, 45, 46, 47, 48, 49, 50] (by decide +kernel) (by decide +kernel)) (goodIn_sub (fun _ h => List.mem_cons_of_mem _ (List.mem_append_right _ h)) (by decide +kernel))
set_option maxRecDepth 20000 in
theorem gX6_told_X6_checkCarp : GoodIn wsX6_told (wsV RX6 143 RX6 yX6_checkCarp wsX6_checkCarp) := goodIn_app (goodIn_of _ (by decide +kernel)) ggX6_told_X6_checkCarp
set_option maxRecDepth 20000 in
theorem ggX6_told_X6_checkWhat : GoodIn wsX6_told wsX6_checkWhat := goodIn_ca (goodIn_r _ [14, 8, 9] (by decide +kernel) (by decide +kernel)) (goodIn_sub (fun _ h => List.mem_cons_of_mem _ (List.mem_append_right _ h)) (by decide +kernel))
set_option maxRecDepth 20000 in
theorem gX6_told_X6_checkWhat : GoodIn wsX6_told (wsV RX6 112 RX6 yX6_checkWhat wsX6_checkWhat) := goodIn_app (goodIn_of _ (by decide +kernel)) ggX6_told_X6_checkWhat
set_option maxRecDepth 20000 in
theorem ggX6_told_X4_placeOf : GoodIn wsX6_told wsX4_placeOf := goodIn_r _ [19, 20, 21, 22, 23, 18, 24, 25, 48, 49, 50] (by decide +kernel) (by decide +kernel)
set_option maxRecDepth 20000 in
theorem gX6_told_X4_placeOf : GoodIn wsX6_told (wsV RX6 154 RX4 yX4_placeOf wsX4_placeOf) := goodIn_app (goodIn_of _ (by decide +kernel)) ggX6_told_X4_placeOf
set_option maxRecDepth 20000 in
theorem ggX6_told_X0_carpSize : GoodIn wsX6_told wsX0_carpSize := goodIn_r _ [30, 31, 51, 52, 53, 54] (by decide +kernel) (by decide +kernel)
set_option maxRecDepth 20000 in
theorem gX6_told_X0_carpSize : GoodIn wsX6_told (wsV RX6 157 RX0 yX0_carpSize wsX0_carpSize) := goodIn_app (goodIn_of _ (by decide +kernel)) ggX6_told_X0_carpSize
set_option maxRecDepth 20000 in
theorem ggX6_told_X4_isHere : GoodIn wsX6_told wsX4_isHere := goodIn_r _ [35, 36, 21, 22, 23, 18, 24, 25, 48, 49, 50] (by decide +kernel) (by decide +kernel)
set_option maxRecDepth 20000 in
theorem gX6_told_X4_isHere : GoodIn wsX6_told (wsV RX6 146 RX4 yX4_isHere wsX4_isHere) := goodIn_app (goodIn_of _ (by decide +kernel)) ggX6_told_X4_isHere
set_option maxRecDepth 20000 in
theorem ggX6_told_X6_rankOf : GoodIn wsX6_told wsX6_rankOf := goodIn_r _ [40, 1, 10, 2, 32, 33, 34, 18, 35, 36, 21, 22, 23, 24, 25, 26, 27, 28, 29, 30, 31, 41, 42, 43, 44, 45, 46, 47, 48, 49, 50, 51, 52, 53, 54] (by decide +kernel) (by decide +kernel)
set_option maxRecDepth 20000 in
theorem gX6_told_X6_rankOf : GoodIn wsX6_told (wsV RX6 160 RX6 yX6_rankOf wsX6_rankOf) := goodIn_app (goodIn_of _ (by decide +kernel)) ggX6_told_X6_rankOf
theorem dX6_told_0 : decode cX6_told 0 = .ok (.aload_n 0, 1) := by decide +kernel
theorem dX6_told_1 : decode cX6_told 1 = .ok (.iload_n 1, 1) := by decide +kernel
theorem dX6_told_2 : decode cX6_told 2 = .ok (.invokevirtual 143, 3) := by decide +kernel
theorem dX6_told_5 : decode cX6_told 5 = .ok (.aload_n 0, 1) := by decide +kernel
theorem dX6_told_6 : decode cX6_told 6 = .ok (.iload_n 2, 1) := by decide +kernel
theorem dX6_told_7 : decode cX6_told 7 = .ok (.iconst 5, 1) := by decide +kernel
theorem dX6_told_8 : decode cX6_told 8 = .ok (.invokevirtual 112, 3) := by decide +kernel
theorem dX6_told_11 : decode cX6_told 11 = .ok (.iload_n 2, 1) := by decide +kernel
theorem dX6_told_12 : decode cX6_told 12 = .ok (.tableswitch 82 0 3 #[32, 44, 56, 65], 32) := by decide +kernel
theorem dX6_told_44 : decode cX6_told 44 = .ok (.aload_n 0, 1) := by decide +kernel
theorem dX6_told_45 : decode cX6_told 45 = .ok (.getfield 19, 3) := by decide +kernel
theorem dX6_told_48 : decode cX6_told 48 = .ok (.iload_n 1, 1) := by decide +kernel
theorem dX6_told_49 : decode cX6_told 49 = .ok (.invokevirtual 154, 3) := by decide +kernel
theorem dX6_told_52 : decode cX6_told 52 = .ok (.bipush 10, 2) := by decide +kernel
theorem dX6_told_54 : decode cX6_told 54 = .ok (.irem, 1) := by decide +kernel
theorem dX6_told_55 : decode cX6_told 55 = .ok (.ireturn, 1) := by decide +kernel
theorem dX6_told_56 : decode cX6_told 56 = .ok (.aload_n 0, 1) := by decide +kernel
theorem dX6_told_57 : decode cX6_told 57 = .ok (.getfield 19, 3) := by decide +kernel
theorem dX6_told_60 : decode cX6_told 60 = .ok (.iload_n 1, 1) := by decide +kernel
theorem dX6_told_61 : decode cX6_told 61 = .ok (.invokevirtual 154, 3) := by decide +kernel
theorem dX6_told_64 : decode cX6_told 64 = .ok (.bipush 10, 2) := by decide +kernel
theorem dX6_told_66 : decode cX6_told 66 = .ok (.idiv, 1) := by decide +kernel
theorem dX6_told_67 : decode cX6_told 67 = .ok (.ireturn, 1) := by decide +kernel
theorem dX6_told_68 : decode cX6_told 68 = .ok (.aload_n 0, 1) := by decide +kernel
theorem dX6_told_69 : decode cX6_told 69 = .ok (.getfield 40, 3) := by decide +kernel
theorem dX6_told_72 : decode cX6_told 72 = .ok (.iload_n 1, 1) := by decide +kernel
theorem dX6_told_73 : decode cX6_told 73 = .ok (.invokevirtual 157, 3) := by decide +kernel
theorem dX6_told_76 : decode cX6_told 76 = .ok (.ireturn, 1) := by decide +kernel
theorem dX6_told_77 : decode cX6_told 77 = .ok (.aload_n 0, 1) := by decide +kernel
theorem dX6_told_78 : decode cX6_told 78 = .ok (.getfield 19, 3) := by decide +kernel
theorem dX6_told_81 : decode cX6_told 81 = .ok (.iload_n 1, 1) := by decide +kernel
theorem dX6_told_82 : decode cX6_told 82 = .ok (.invokevirtual 146, 3) := by decide +kernel
theorem dX6_told_85 : decode cX6_told 85 = .ok (.ifCond .eq 7, 3) := by decide +kernel
theorem dX6_told_88 : decode cX6_told 88 = .ok (.iconst 0, 1) := by decide +kernel
theorem dX6_told_89 : decode cX6_told 89 = .ok (.goto 4, 3) := by decide +kernel
theorem dX6_told_92 : decode cX6_told 92 = .ok (.iconst 1, 1) := by decide +kernel
theorem dX6_told_93 : decode cX6_told 93 = .ok (.ireturn, 1) := by decide +kernel
theorem dX6_told_94 : decode cX6_told 94 = .ok (.aload_n 0, 1) := by decide +kernel
theorem dX6_told_95 : decode cX6_told 95 = .ok (.iload_n 1, 1) := by decide +kernel
theorem dX6_told_96 : decode cX6_told 96 = .ok (.invokevirtual 160, 3) := by decide +kernel
theorem dX6_told_99 : decode cX6_told 99 = .ok (.ireturn, 1) := by decide +kernel
set_option maxRecDepth 20000 in
theorem ggX6_rankOf_X4_isHere : GoodIn wsX6_rankOf wsX4_isHere := goodIn_r _ [8, 9, 10, 11, 12, 7, 13, 14, 28, 29, 30] (by decide +kernel) (by decide +kernel)
set_option maxRecDepth 20000 in
theorem gX6_rankOf_X4_isHere : GoodIn wsX6_rankOf (wsV RX6 146 RX4 yX4_isHere wsX4_isHere) := goodIn_app (goodIn_of _ (by decide +kernel)) ggX6_rankOf_X4_isHere
set_option maxRecDepth 20000 in
theorem ggX6_rankOf_X0_carpSize : GoodIn wsX6_rankOf wsX0_carpSize := goodIn_r _ [19, 20, 31, 32, 33, 34] (by decide +kernel) (by decide +kernel)
set_option maxRecDepth 20000 in
theorem gX6_rankOf_X0_carpSize : GoodIn wsX6_rankOf (wsV RX6 157 RX0 yX0_carpSize wsX0_carpSize) := goodIn_app (goodIn_of _ (by decide +kernel)) ggX6_rankOf_X0_carpSize
theorem dX6_rankOf_0 : decode cX6_rankOf 0 = .ok (.aload_n 0, 1) := by decide +kernel
theorem dX6_rankOf_1 : decode cX6_rankOf 1 = .ok (.getfield 19, 3) := by decide +kernel
theorem dX6_rankOf_4 : decode cX6_rankOf 4 = .ok (.iload_n 1, 1) := by decide +kernel
theorem dX6_rankOf_5 : decode cX6_rankOf 5 = .ok (.invokevirtual 146, 3) := by decide +kernel
theorem dX6_rankOf_8 : decode cX6_rankOf 8 = .ok (.ifCond .ne 5, 3) := by decide +kernel
theorem dX6_rankOf_11 : decode cX6_rankOf 11 = .ok (.iconst 0, 1) := by decide +kernel
theorem dX6_rankOf_12 : decode cX6_rankOf 12 = .ok (.ireturn, 1) := by decide +kernel
theorem dX6_rankOf_13 : decode cX6_rankOf 13 = .ok (.iconst 1, 1) := by decide +kernel
theorem dX6_rankOf_14 : decode cX6_rankOf 14 = .ok (.istore_n 2, 1) := by decide +kernel
theorem dX6_rankOf_15 : decode cX6_rankOf 15 = .ok (.iconst 0, 1) := by decide +kernel
theorem dX6_rankOf_16 : decode cX6_rankOf 16 = .ok (.istore_n 3, 1) := by decide +kernel
theorem dX6_rankOf_17 : decode cX6_rankOf 17 = .ok (.iload_n 3, 1) := by decide +kernel
theorem dX6_rankOf_18 : decode cX6_rankOf 18 = .ok (.aload_n 0, 1) := by decide +kernel
theorem dX6_rankOf_19 : decode cX6_rankOf 19 = .ok (.getfield 19, 3) := by decide +kernel
theorem dX6_rankOf_22 : decode cX6_rankOf 22 = .ok (.getfield 129, 3) := by decide +kernel
theorem dX6_rankOf_25 : decode cX6_rankOf 25 = .ok (.if_icmp .ge 42, 3) := by decide +kernel
theorem dX6_rankOf_28 : decode cX6_rankOf 28 = .ok (.aload_n 0, 1) := by decide +kernel
theorem dX6_rankOf_29 : decode cX6_rankOf 29 = .ok (.getfield 19, 3) := by decide +kernel
theorem dX6_rankOf_32 : decode cX6_rankOf 32 = .ok (.iload_n 3, 1) := by decide +kernel
theorem dX6_rankOf_33 : decode cX6_rankOf 33 = .ok (.invokevirtual 146, 3) := by decide +kernel
theorem dX6_rankOf_36 : decode cX6_rankOf 36 = .ok (.ifCond .eq 25, 3) := by decide +kernel
theorem dX6_rankOf_39 : decode cX6_rankOf 39 = .ok (.aload_n 0, 1) := by decide +kernel
theorem dX6_rankOf_40 : decode cX6_rankOf 40 = .ok (.getfield 40, 3) := by decide +kernel
theorem dX6_rankOf_43 : decode cX6_rankOf 43 = .ok (.iload_n 3, 1) := by decide +kernel
theorem dX6_rankOf_44 : decode cX6_rankOf 44 = .ok (.invokevirtual 157, 3) := by decide +kernel
theorem dX6_rankOf_47 : decode cX6_rankOf 47 = .ok (.aload_n 0, 1) := by decide +kernel
theorem dX6_rankOf_48 : decode cX6_rankOf 48 = .ok (.getfield 40, 3) := by decide +kernel
theorem dX6_rankOf_51 : decode cX6_rankOf 51 = .ok (.iload_n 1, 1) := by decide +kernel
theorem dX6_rankOf_52 : decode cX6_rankOf 52 = .ok (.invokevirtual 157, 3) := by decide +kernel
theorem dX6_rankOf_55 : decode cX6_rankOf 55 = .ok (.if_icmp .le 6, 3) := by decide +kernel
theorem dX6_rankOf_58 : decode cX6_rankOf 58 = .ok (.iinc 2 1, 3) := by decide +kernel
theorem dX6_rankOf_61 : decode cX6_rankOf 61 = .ok (.iinc 3 1, 3) := by decide +kernel
theorem dX6_rankOf_64 : decode cX6_rankOf 64 = .ok (.goto (-47), 3) := by decide +kernel
theorem dX6_rankOf_67 : decode cX6_rankOf 67 = .ok (.iload_n 2, 1) := by decide +kernel
theorem dX6_rankOf_68 : decode cX6_rankOf 68 = .ok (.ireturn, 1) := by decide +kernel
set_option maxRecDepth 20000 in
theorem ggX6_gate_X6_checkPlace : GoodIn wsX6_gate wsX6_checkPlace := goodIn_ca (goodIn_r _ [11, 12, 13, 14, 15, 16, 17] (by decide +kernel) (by decide +kernel)) (goodIn_sub (fun _ h => List.mem_cons_of_mem _ (List.mem_append_right _ h)) (by decide +kernel))
set_option maxRecDepth 20000 in
theorem gX6_gate_X6_checkPlace : GoodIn wsX6_gate (wsV RX6 54 RX6 yX6_checkPlace wsX6_checkPlace) := goodIn_app (goodIn_of _ (by decide +kernel)) ggX6_gate_X6_checkPlace
set_option maxRecDepth 20000 in
theorem ggX6_gate_X1_isDirection : GoodIn wsX6_gate wsX1_isDirection := goodIn_r _ [20] (by decide +kernel) (by decide +kernel)
set_option maxRecDepth 20000 in
theorem gX6_gate_X1_isDirection : GoodIn wsX6_gate (va_wsS RX6 163 yX1_isDirection wsX1_isDirection) := goodIn_app (goodIn_of _ (by decide +kernel)) ggX6_gate_X1_isDirection
set_option maxRecDepth 20000 in
theorem ggX6_gate_X1_numberOf : GoodIn wsX6_gate wsX1_numberOf := goodIn_r _ [23] (by decide +kernel) (by decide +kernel)
set_option maxRecDepth 20000 in
theorem gX6_gate_X1_numberOf : GoodIn wsX6_gate (va_wsS RX6 61 yX1_numberOf wsX1_numberOf) := goodIn_app (goodIn_of _ (by decide +kernel)) ggX6_gate_X1_numberOf
set_option maxRecDepth 20000 in
theorem ggX6_gate_X2_add : GoodIn wsX6_gate wsX2_add := goodIn_r _ [28, 29, 30, 31, 39, 40, 41] (by decide +kernel) (by decide +kernel)
set_option maxRecDepth 20000 in
theorem gX6_gate_X2_add : GoodIn wsX6_gate (wsV RX6 176 RX2 yX2_add wsX2_add) := goodIn_app (goodIn_of _ (by decide +kernel)) ggX6_gate_X2_add
theorem dX6_gate_0 : decode cX6_gate 0 = .ok (.aload_n 0, 1) := by decide +kernel
theorem dX6_gate_1 : decode cX6_gate 1 = .ok (.iload_n 1, 1) := by decide +kernel
theorem dX6_gate_2 : decode cX6_gate 2 = .ok (.iload_n 2, 1) := by decide +kernel
theorem dX6_gate_3 : decode cX6_gate 3 = .ok (.invokevirtual 54, 3) := by decide +kernel
theorem dX6_gate_6 : decode cX6_gate 6 = .ok (.iload_n 3, 1) := by decide +kernel
theorem dX6_gate_7 : decode cX6_gate 7 = .ok (.invokestatic 163, 3) := by decide +kernel
theorem dX6_gate_10 : decode cX6_gate 10 = .ok (.ifCond .ne 13, 3) := by decide +kernel
theorem dX6_gate_13 : decode cX6_gate 13 = .ok (.new 166, 3) := by decide +kernel
theorem dX6_gate_16 : decode cX6_gate 16 = .ok (.dup, 1) := by decide +kernel
theorem dX6_gate_17 : decode cX6_gate 17 = .ok (.ldc 168, 2) := by decide +kernel
theorem dX6_gate_19 : decode cX6_gate 19 = .ok (.invokespecial 170, 3) := by decide +kernel
theorem dX6_gate_22 : decode cX6_gate 22 = .ok (.athrow, 1) := by decide +kernel
theorem dX6_gate_23 : decode cX6_gate 23 = .ok (.aload_n 0, 1) := by decide +kernel
theorem dX6_gate_24 : decode cX6_gate 24 = .ok (.getfield 26, 3) := by decide +kernel
theorem dX6_gate_27 : decode cX6_gate 27 = .ok (.getfield 171, 3) := by decide +kernel
theorem dX6_gate_30 : decode cX6_gate 30 = .ok (.bipush 6, 2) := by decide +kernel
theorem dX6_gate_32 : decode cX6_gate 32 = .ok (.if_icmp .lt 13, 3) := by decide +kernel
theorem dX6_gate_35 : decode cX6_gate 35 = .ok (.new 94, 3) := by decide +kernel
theorem dX6_gate_38 : decode cX6_gate 38 = .ok (.dup, 1) := by decide +kernel
theorem dX6_gate_39 : decode cX6_gate 39 = .ok (.ldc 174, 2) := by decide +kernel
theorem dX6_gate_41 : decode cX6_gate 41 = .ok (.invokespecial 98, 3) := by decide +kernel
theorem dX6_gate_44 : decode cX6_gate 44 = .ok (.athrow, 1) := by decide +kernel
theorem dX6_gate_45 : decode cX6_gate 45 = .ok (.aload_n 0, 1) := by decide +kernel
theorem dX6_gate_46 : decode cX6_gate 46 = .ok (.getfield 26, 3) := by decide +kernel
theorem dX6_gate_49 : decode cX6_gate 49 = .ok (.iload_n 1, 1) := by decide +kernel
theorem dX6_gate_50 : decode cX6_gate 50 = .ok (.iload_n 2, 1) := by decide +kernel
theorem dX6_gate_51 : decode cX6_gate 51 = .ok (.invokestatic 61, 3) := by decide +kernel
theorem dX6_gate_54 : decode cX6_gate 54 = .ok (.iload_n 3, 1) := by decide +kernel
theorem dX6_gate_55 : decode cX6_gate 55 = .ok (.invokevirtual 176, 3) := by decide +kernel
theorem dX6_gate_58 : decode cX6_gate 58 = .ok (.ireturn, 1) := by decide +kernel
set_option maxRecDepth 20000 in
theorem ggX6_about_X6_checkGate : GoodIn wsX6_about wsX6_checkGate := goodIn_ca (goodIn_r _ [12, 13, 14, 15, 16, 138, 139, 140, 141, 142, 143, 144, 150, 151, 152] (by decide +kernel) (by decide +kernel)) (goodIn_sub (fun _ h => List.mem_cons_of_mem _ (List.mem_append_right _ h)) (by decide +kernel))
set_option maxRecDepth 20000 in
theorem gX6_about_X6_checkGate : GoodIn wsX6_about (wsV RX6 178 RX6 yX6_checkGate wsX6_checkGate) := goodIn_app (goodIn_of _ (by decide +kernel)) ggX6_about_X6_checkGate
set_option maxRecDepth 20000 in
theorem ggX6_about_X6_checkWhat : GoodIn wsX6_about wsX6_checkWhat := goodIn_ca (goodIn_r _ [20, 13, 14] (by decide +kernel) (by decide +kernel)) (goodIn_sub (fun _ h => List.mem_cons_of_mem _ (List.mem_append_right _ h)) (by decide +kernel))
set_option maxRecDepth 20000 in
theorem gX6_about_X6_checkWhat : GoodIn wsX6_about (wsV RX6 112 RX6 yX6_checkWhat wsX6_checkWhat) := goodIn_app (goodIn_of _ (by decide +kernel)) ggX6_about_X6_checkWhat
set_option maxRecDepth 20000 in
theorem ggX6_about_X6_look : GoodIn wsX6_about wsX6_look := goodIn_r _ [24, 2, 15, 25, 6, 26, 27, 28, 29, 30, 31, 32, 33, 34, 35, 36, 37, 38, 39, 40, 41, 42, 43, 44, 45, 46, 47, 48, 49, 50, 51, 52, 53, 54, 55, 56, 57, 58, 59, 60, 61, 62, 63, 64, 65, 66, 67, 68, 69, 70, 71, 72, 73, 74, 75, 76, 77, 78, 79, 80, 81, 82, 11, 83, 3, 84, 85, 86, 87, 88, 89, 90, 91, 92, 93, 94, 95, 96, 97, 98, 99, 100, 101, 102, 103, 104, 105, 106, 107, 108, 109, 110, 111, 112, 113, 114, 115, 116, 117, 118, 119, 120, 121, 122, 138, 139, 140, 141, 142, 143, 144, 145, 146, 147, 148, 149, 150, 151, 152, 153, 154, 155, 156, 157, 158, 159, 160, 161, 162, 163, 164, 165, 166, 167, 168] (by decide +kernel) (by decide +kernel)
set_option maxRecDepth 20000 in
theorem gX6_about_X6_look : GoodIn wsX6_about (wsV RX6 181 RX6 yX6_look wsX6_look) := goodIn_app (goodIn_of _ (by decide +kernel)) ggX6_about_X6_look
set_option maxRecDepth 20000 in
theorem ggX6_about_X3_manyAt : GoodIn wsX6_about wsX3_manyAt := goodIn_r _ [127, 128, 129, 130, 131, 126, 132, 133, 134, 135, 136, 137, 169, 170] (by decide +kernel) (by decide +kernel)
set_option maxRecDepth 20000 in
theorem gX6_about_X3_manyAt : GoodIn wsX6_about (wsV RX6 197 RX3 yX3_manyAt wsX3_manyAt) := goodIn_app (goodIn_of _ (by decide +kernel)) ggX6_about_X3_manyAt
theorem dX6_about_0 : decode cX6_about 0 = .ok (.aload_n 0, 1) := by decide +kernel
theorem dX6_about_1 : decode cX6_about 1 = .ok (.iload_n 1, 1) := by decide +kernel
theorem dX6_about_2 : decode cX6_about 2 = .ok (.invokevirtual 178, 3) := by decide +kernel
theorem dX6_about_5 : decode cX6_about 5 = .ok (.aload_n 0, 1) := by decide +kernel
theorem dX6_about_6 : decode cX6_about 6 = .ok (.iload_n 2, 1) := by decide +kernel
theorem dX6_about_7 : decode cX6_about 7 = .ok (.iconst 5, 1) := by decide +kernel
theorem dX6_about_8 : decode cX6_about 8 = .ok (.invokevirtual 112, 3) := by decide +kernel
theorem dX6_about_11 : decode cX6_about 11 = .ok (.aload_n 0, 1) := by decide +kernel
theorem dX6_about_12 : decode cX6_about 12 = .ok (.iload_n 1, 1) := by decide +kernel
theorem dX6_about_13 : decode cX6_about 13 = .ok (.aload_n 0, 1) := by decide +kernel
theorem dX6_about_14 : decode cX6_about 14 = .ok (.getfield 40, 3) := by decide +kernel
theorem dX6_about_17 : decode cX6_about 17 = .ok (.invokevirtual 181, 3) := by decide +kernel
theorem dX6_about_20 : decode cX6_about 20 = .ok (.pop, 1) := by decide +kernel
theorem dX6_about_21 : decode cX6_about 21 = .ok (.iload_n 2, 1) := by decide +kernel
theorem dX6_about_22 : decode cX6_about 22 = .ok (.tableswitch 62 0 3 #[30, 38, 46, 54], 30) := by decide +kernel
theorem dX6_about_52 : decode cX6_about 52 = .ok (.aload_n 0, 1) := by decide +kernel
theorem dX6_about_53 : decode cX6_about 53 = .ok (.getfield 50, 3) := by decide +kernel
theorem dX6_about_56 : decode cX6_about 56 = .ok (.getfield 185, 3) := by decide +kernel
theorem dX6_about_59 : decode cX6_about 59 = .ok (.ireturn, 1) := by decide +kernel
theorem dX6_about_60 : decode cX6_about 60 = .ok (.aload_n 0, 1) := by decide +kernel
theorem dX6_about_61 : decode cX6_about 61 = .ok (.getfield 50, 3) := by decide +kernel
theorem dX6_about_64 : decode cX6_about 64 = .ok (.getfield 188, 3) := by decide +kernel
theorem dX6_about_67 : decode cX6_about 67 = .ok (.ireturn, 1) := by decide +kernel
theorem dX6_about_68 : decode cX6_about 68 = .ok (.aload_n 0, 1) := by decide +kernel
theorem dX6_about_69 : decode cX6_about 69 = .ok (.getfield 50, 3) := by decide +kernel
theorem dX6_about_72 : decode cX6_about 72 = .ok (.getfield 191, 3) := by decide +kernel
theorem dX6_about_75 : decode cX6_about 75 = .ok (.ireturn, 1) := by decide +kernel
theorem dX6_about_76 : decode cX6_about 76 = .ok (.aload_n 0, 1) := by decide +kernel
theorem dX6_about_77 : decode cX6_about 77 = .ok (.getfield 50, 3) := by decide +kernel
theorem dX6_about_80 : decode cX6_about 80 = .ok (.getfield 194, 3) := by decide +kernel
theorem dX6_about_83 : decode cX6_about 83 = .ok (.ireturn, 1) := by decide +kernel
theorem dX6_about_84 : decode cX6_about 84 = .ok (.aload_n 0, 1) := by decide +kernel
theorem dX6_about_85 : decode cX6_about 85 = .ok (.getfield 33, 3) := by decide +kernel
theorem dX6_about_88 : decode cX6_about 88 = .ok (.iload_n 1, 1) := by decide +kernel
theorem dX6_about_89 : decode cX6_about 89 = .ok (.invokevirtual 197, 3) := by decide +kernel
theorem dX6_about_92 : decode cX6_about 92 = .ok (.ireturn, 1) := by decide +kernel
set_option maxRecDepth 20000 in
theorem ggX6_invite_X6_checkGate : GoodIn wsX6_invite wsX6_checkGate := goodIn_ca (goodIn_r _ [9, 10, 11, 12, 13, 21, 22, 23, 24, 25, 26, 27, 30, 31, 32] (by decide +kernel) (by decide +kernel)) (goodIn_sub (fun _ h => List.mem_cons_of_mem _ (List.mem_append_right _ h)) (by decide +kernel))
set_option maxRecDepth 20000 in
theorem gX6_invite_X6_checkGate : GoodIn wsX6_invite (wsV RX6 178 RX6 yX6_checkGate wsX6_checkGate) := goodIn_app (goodIn_of _ (by decide +kernel)) ggX6_invite_X6_checkGate
set_option maxRecDepth 20000 in
theorem ggX6_invite_X3_add : GoodIn wsX6_invite wsX3_add := goodIn_r _ [18, 19, 20, 28, 29] (by decide +kernel) (by decide +kernel)
set_option maxRecDepth 20000 in
theorem gX6_invite_X3_add : GoodIn wsX6_invite (wsV RX6 203 RX3 yX3_add wsX3_add) := goodIn_app (goodIn_of _ (by decide +kernel)) ggX6_invite_X3_add
theorem dX6_invite_0 : decode cX6_invite 0 = .ok (.aload_n 0, 1) := by decide +kernel
theorem dX6_invite_1 : decode cX6_invite 1 = .ok (.iload_n 1, 1) := by decide +kernel
theorem dX6_invite_2 : decode cX6_invite 2 = .ok (.invokevirtual 178, 3) := by decide +kernel
theorem dX6_invite_5 : decode cX6_invite 5 = .ok (.aload_n 0, 1) := by decide +kernel
theorem dX6_invite_6 : decode cX6_invite 6 = .ok (.getfield 33, 3) := by decide +kernel
theorem dX6_invite_9 : decode cX6_invite 9 = .ok (.getfield 200, 3) := by decide +kernel
theorem dX6_invite_12 : decode cX6_invite 12 = .ok (.iconst 5, 1) := by decide +kernel
theorem dX6_invite_13 : decode cX6_invite 13 = .ok (.if_icmp .lt 13, 3) := by decide +kernel
theorem dX6_invite_16 : decode cX6_invite 16 = .ok (.new 94, 3) := by decide +kernel
theorem dX6_invite_19 : decode cX6_invite 19 = .ok (.dup, 1) := by decide +kernel
theorem dX6_invite_20 : decode cX6_invite 20 = .ok (.ldc 201, 2) := by decide +kernel
theorem dX6_invite_22 : decode cX6_invite 22 = .ok (.invokespecial 98, 3) := by decide +kernel
theorem dX6_invite_25 : decode cX6_invite 25 = .ok (.athrow, 1) := by decide +kernel
theorem dX6_invite_26 : decode cX6_invite 26 = .ok (.aload_n 0, 1) := by decide +kernel
theorem dX6_invite_27 : decode cX6_invite 27 = .ok (.getfield 33, 3) := by decide +kernel
theorem dX6_invite_30 : decode cX6_invite 30 = .ok (.iload_n 1, 1) := by decide +kernel
theorem dX6_invite_31 : decode cX6_invite 31 = .ok (.invokevirtual 203, 3) := by decide +kernel
theorem dX6_invite_34 : decode cX6_invite 34 = .ok (.ireturn, 1) := by decide +kernel
set_option maxRecDepth 20000 in
theorem ggX6_lead_X6_checkPoet : GoodIn wsX6_lead wsX6_checkPoet := goodIn_ca (goodIn_r _ [6, 7, 8, 1, 9, 31, 32, 33, 34, 35, 36, 37, 38, 39] (by decide +kernel) (by decide +kernel)) (goodIn_sub (fun _ h => List.mem_cons_of_mem _ (List.mem_append_right _ h)) (by decide +kernel))
set_option maxRecDepth 20000 in
theorem gX6_lead_X6_checkPoet : GoodIn wsX6_lead (wsV RX6 204 RX6 yX6_checkPoet wsX6_checkPoet) := goodIn_app (goodIn_of _ (by decide +kernel)) ggX6_lead_X6_checkPoet
set_option maxRecDepth 20000 in
theorem ggX6_lead_X6_checkGate : GoodIn wsX6_lead wsX6_checkGate := goodIn_ca (goodIn_r _ [13, 7, 8, 14, 15, 31, 32, 33, 34, 35, 36, 37, 40, 41, 42] (by decide +kernel) (by decide +kernel)) (goodIn_sub (fun _ h => List.mem_cons_of_mem _ (List.mem_append_right _ h)) (by decide +kernel))
set_option maxRecDepth 20000 in
theorem gX6_lead_X6_checkGate : GoodIn wsX6_lead (wsV RX6 178 RX6 yX6_checkGate wsX6_checkGate) := goodIn_app (goodIn_of _ (by decide +kernel)) ggX6_lead_X6_checkGate
set_option maxRecDepth 20000 in
theorem ggX6_lead_X3_gateOf : GoodIn wsX6_lead wsX3_gateOf := goodIn_r _ [20, 21, 22, 23, 24, 19, 25, 26, 38, 39] (by decide +kernel) (by decide +kernel)
set_option maxRecDepth 20000 in
theorem gX6_lead_X3_gateOf : GoodIn wsX6_lead (wsV RX6 207 RX3 yX3_gateOf wsX3_gateOf) := goodIn_app (goodIn_of _ (by decide +kernel)) ggX6_lead_X3_gateOf
set_option maxRecDepth 20000 in
theorem ggX6_lead_X3_setGate : GoodIn wsX6_lead wsX3_setGate := goodIn_r _ [30, 21, 22, 23, 24, 19, 25, 26, 38, 39] (by decide +kernel) (by decide +kernel)
set_option maxRecDepth 20000 in
theorem gX6_lead_X3_setGate : GoodIn wsX6_lead (wsV RX6 210 RX3 yX3_setGate wsX3_setGate) := goodIn_app (goodIn_of _ (by decide +kernel)) ggX6_lead_X3_setGate
theorem dX6_lead_0 : decode cX6_lead 0 = .ok (.aload_n 0, 1) := by decide +kernel
theorem dX6_lead_1 : decode cX6_lead 1 = .ok (.iload_n 1, 1) := by decide +kernel
theorem dX6_lead_2 : decode cX6_lead 2 = .ok (.invokevirtual 204, 3) := by decide +kernel
theorem dX6_lead_5 : decode cX6_lead 5 = .ok (.aload_n 0, 1) := by decide +kernel
theorem dX6_lead_6 : decode cX6_lead 6 = .ok (.iload_n 2, 1) := by decide +kernel
theorem dX6_lead_7 : decode cX6_lead 7 = .ok (.invokevirtual 178, 3) := by decide +kernel
theorem dX6_lead_10 : decode cX6_lead 10 = .ok (.aload_n 0, 1) := by decide +kernel
theorem dX6_lead_11 : decode cX6_lead 11 = .ok (.getfield 33, 3) := by decide +kernel
theorem dX6_lead_14 : decode cX6_lead 14 = .ok (.iload_n 1, 1) := by decide +kernel
theorem dX6_lead_15 : decode cX6_lead 15 = .ok (.invokevirtual 207, 3) := by decide +kernel
theorem dX6_lead_18 : decode cX6_lead 18 = .ok (.istore_n 3, 1) := by decide +kernel
theorem dX6_lead_19 : decode cX6_lead 19 = .ok (.aload_n 0, 1) := by decide +kernel
theorem dX6_lead_20 : decode cX6_lead 20 = .ok (.getfield 33, 3) := by decide +kernel
theorem dX6_lead_23 : decode cX6_lead 23 = .ok (.iload_n 1, 1) := by decide +kernel
theorem dX6_lead_24 : decode cX6_lead 24 = .ok (.iload_n 2, 1) := by decide +kernel
theorem dX6_lead_25 : decode cX6_lead 25 = .ok (.invokevirtual 210, 3) := by decide +kernel
theorem dX6_lead_28 : decode cX6_lead 28 = .ok (.iload_n 3, 1) := by decide +kernel
theorem dX6_lead_29 : decode cX6_lead 29 = .ok (.ireturn, 1) := by decide +kernel
set_option maxRecDepth 20000 in
theorem ggX6_lines_X6_checkPoet : GoodIn wsX6_lines wsX6_checkPoet := goodIn_ca (goodIn_r _ [6, 7, 8, 9, 10, 17, 18, 19, 20, 21, 22, 23, 24, 25] (by decide +kernel) (by decide +kernel)) (goodIn_sub (fun _ h => List.mem_cons_of_mem _ (List.mem_append_right _ h)) (by decide +kernel))
set_option maxRecDepth 20000 in
theorem gX6_lines_X6_checkPoet : GoodIn wsX6_lines (wsV RX6 204 RX6 yX6_checkPoet wsX6_checkPoet) := goodIn_app (goodIn_of _ (by decide +kernel)) ggX6_lines_X6_checkPoet
set_option maxRecDepth 20000 in
theorem ggX6_lines_X0_written : GoodIn wsX6_lines wsX0_written := goodIn_r _ [15, 16, 26, 27, 28, 29] (by decide +kernel) (by decide +kernel)
set_option maxRecDepth 20000 in
theorem gX6_lines_X0_written : GoodIn wsX6_lines (wsV RX6 213 RX0 yX0_written wsX0_written) := goodIn_app (goodIn_of _ (by decide +kernel)) ggX6_lines_X0_written
theorem dX6_lines_0 : decode cX6_lines 0 = .ok (.aload_n 0, 1) := by decide +kernel
theorem dX6_lines_1 : decode cX6_lines 1 = .ok (.iload_n 1, 1) := by decide +kernel
theorem dX6_lines_2 : decode cX6_lines 2 = .ok (.invokevirtual 204, 3) := by decide +kernel
theorem dX6_lines_5 : decode cX6_lines 5 = .ok (.aload_n 0, 1) := by decide +kernel
theorem dX6_lines_6 : decode cX6_lines 6 = .ok (.getfield 40, 3) := by decide +kernel
theorem dX6_lines_9 : decode cX6_lines 9 = .ok (.iload_n 1, 1) := by decide +kernel
theorem dX6_lines_10 : decode cX6_lines 10 = .ok (.invokevirtual 213, 3) := by decide +kernel
theorem dX6_lines_13 : decode cX6_lines 13 = .ok (.ireturn, 1) := by decide +kernel
set_option maxRecDepth 20000 in
theorem ggX6_count_X6_checkWhat : GoodIn wsX6_count wsX6_checkWhat := goodIn_ca (goodIn_r _ [14, 15, 16] (by decide +kernel) (by decide +kernel)) (goodIn_sub (fun _ h => List.mem_cons_of_mem _ (List.mem_append_right _ h)) (by decide +kernel))
set_option maxRecDepth 20000 in
theorem gX6_count_X6_checkWhat : GoodIn wsX6_count (wsV RX6 112 RX6 yX6_checkWhat wsX6_checkWhat) := goodIn_app (goodIn_of _ (by decide +kernel)) ggX6_count_X6_checkWhat
set_option maxRecDepth 20000 in
theorem ggX6_count_X0_isFullMoon : GoodIn wsX6_count wsX0_isFullMoon := goodIn_r _ [21, 22, 70, 71, 72, 73] (by decide +kernel) (by decide +kernel)
set_option maxRecDepth 20000 in
theorem gX6_count_X0_isFullMoon : GoodIn wsX6_count (wsV RX6 219 RX0 yX0_isFullMoon wsX0_isFullMoon) := goodIn_app (goodIn_of _ (by decide +kernel)) ggX6_count_X0_isFullMoon
set_option maxRecDepth 20000 in
theorem ggX6_count_X1_manyOf : GoodIn wsX6_count wsX1_manyOf := goodIn_r _ [27, 28, 74, 75, 76, 77, 78, 79, 80, 81, 82] (by decide +kernel) (by decide +kernel)
set_option maxRecDepth 20000 in
theorem gX6_count_X1_manyOf : GoodIn wsX6_count (wsV RX6 223 RX1 yX1_manyOf wsX1_manyOf) := goodIn_app (goodIn_of _ (by decide +kernel)) ggX6_count_X1_manyOf
set_option maxRecDepth 20000 in
theorem ggX6_count_X4_manyHere : GoodIn wsX6_count wsX4_manyHere := goodIn_r _ [33, 34, 35, 36, 37, 32, 38, 39, 40, 41, 42, 43, 88, 89, 90] (by decide +kernel) (by decide +kernel)
set_option maxRecDepth 20000 in
theorem gX6_count_X4_manyHere : GoodIn wsX6_count (wsV RX6 229 RX4 yX4_manyHere wsX4_manyHere) := goodIn_app (goodIn_of _ (by decide +kernel)) ggX6_count_X4_manyHere
set_option maxRecDepth 20000 in
theorem ggX6_count_X6_changingCount : GoodIn wsX6_count wsX6_changingCount := goodIn_r _ [47, 48, 5, 49, 50, 51, 32, 52, 34, 35, 36, 37, 38, 39, 40, 41, 42, 43, 53, 54, 55, 20, 56, 57, 58, 59, 60, 61, 62, 70, 71, 72, 73, 63, 64, 65, 66, 67, 68, 69, 88, 89, 90] (by decide +kernel) (by decide +kernel)
set_option maxRecDepth 20000 in
theorem gX6_count_X6_changingCount : GoodIn wsX6_count (wsV RX6 233 RX6 yX6_changingCount wsX6_changingCount) := goodIn_app (goodIn_of _ (by decide +kernel)) ggX6_count_X6_changingCount
theorem dX6_count_0 : decode cX6_count 0 = .ok (.aload_n 0, 1) := by decide +kernel
theorem dX6_count_1 : decode cX6_count 1 = .ok (.iload_n 1, 1) := by decide +kernel
theorem dX6_count_2 : decode cX6_count 2 = .ok (.bipush 11, 2) := by decide +kernel
theorem dX6_count_4 : decode cX6_count 4 = .ok (.invokevirtual 112, 3) := by decide +kernel
theorem dX6_count_7 : decode cX6_count 7 = .ok (.iload_n 1, 1) := by decide +kernel
theorem dX6_count_8 : decode cX6_count 8 = .ok (.tableswitch 130 0 9 #[56, 64, 130, 80, 89, 98, 106, 130, 114, 122], 56) := by decide +kernel
theorem dX6_count_64 : decode cX6_count 64 = .ok (.aload_n 0, 1) := by decide +kernel
theorem dX6_count_65 : decode cX6_count 65 = .ok (.getfield 40, 3) := by decide +kernel
theorem dX6_count_68 : decode cX6_count 68 = .ok (.getfield 216, 3) := by decide +kernel
theorem dX6_count_71 : decode cX6_count 71 = .ok (.ireturn, 1) := by decide +kernel
theorem dX6_count_72 : decode cX6_count 72 = .ok (.aload_n 0, 1) := by decide +kernel
theorem dX6_count_73 : decode cX6_count 73 = .ok (.getfield 40, 3) := by decide +kernel
theorem dX6_count_76 : decode cX6_count 76 = .ok (.invokevirtual 219, 3) := by decide +kernel
theorem dX6_count_79 : decode cX6_count 79 = .ok (.ifCond .eq 7, 3) := by decide +kernel
theorem dX6_count_82 : decode cX6_count 82 = .ok (.iconst 1, 1) := by decide +kernel
theorem dX6_count_83 : decode cX6_count 83 = .ok (.goto 4, 3) := by decide +kernel
theorem dX6_count_86 : decode cX6_count 86 = .ok (.iconst 0, 1) := by decide +kernel
theorem dX6_count_87 : decode cX6_count 87 = .ok (.ireturn, 1) := by decide +kernel
theorem dX6_count_88 : decode cX6_count 88 = .ok (.aload_n 0, 1) := by decide +kernel
theorem dX6_count_89 : decode cX6_count 89 = .ok (.getfield 10, 3) := by decide +kernel
theorem dX6_count_92 : decode cX6_count 92 = .ok (.iconst 1, 1) := by decide +kernel
theorem dX6_count_93 : decode cX6_count 93 = .ok (.invokevirtual 223, 3) := by decide +kernel
theorem dX6_count_96 : decode cX6_count 96 = .ok (.ireturn, 1) := by decide +kernel
theorem dX6_count_97 : decode cX6_count 97 = .ok (.aload_n 0, 1) := by decide +kernel
theorem dX6_count_98 : decode cX6_count 98 = .ok (.getfield 10, 3) := by decide +kernel
theorem dX6_count_101 : decode cX6_count 101 = .ok (.iconst 2, 1) := by decide +kernel
theorem dX6_count_102 : decode cX6_count 102 = .ok (.invokevirtual 223, 3) := by decide +kernel
theorem dX6_count_105 : decode cX6_count 105 = .ok (.ireturn, 1) := by decide +kernel
theorem dX6_count_106 : decode cX6_count 106 = .ok (.aload_n 0, 1) := by decide +kernel
theorem dX6_count_107 : decode cX6_count 107 = .ok (.getfield 10, 3) := by decide +kernel
theorem dX6_count_110 : decode cX6_count 110 = .ok (.getfield 226, 3) := by decide +kernel
theorem dX6_count_113 : decode cX6_count 113 = .ok (.ireturn, 1) := by decide +kernel
theorem dX6_count_114 : decode cX6_count 114 = .ok (.aload_n 0, 1) := by decide +kernel
theorem dX6_count_115 : decode cX6_count 115 = .ok (.getfield 19, 3) := by decide +kernel
theorem dX6_count_118 : decode cX6_count 118 = .ok (.invokevirtual 229, 3) := by decide +kernel
theorem dX6_count_121 : decode cX6_count 121 = .ok (.ireturn, 1) := by decide +kernel
theorem dX6_count_122 : decode cX6_count 122 = .ok (.aload_n 0, 1) := by decide +kernel
theorem dX6_count_123 : decode cX6_count 123 = .ok (.getfield 26, 3) := by decide +kernel
theorem dX6_count_126 : decode cX6_count 126 = .ok (.getfield 171, 3) := by decide +kernel
theorem dX6_count_129 : decode cX6_count 129 = .ok (.ireturn, 1) := by decide +kernel
theorem dX6_count_130 : decode cX6_count 130 = .ok (.aload_n 0, 1) := by decide +kernel
theorem dX6_count_131 : decode cX6_count 131 = .ok (.getfield 33, 3) := by decide +kernel
theorem dX6_count_134 : decode cX6_count 134 = .ok (.getfield 200, 3) := by decide +kernel
theorem dX6_count_137 : decode cX6_count 137 = .ok (.ireturn, 1) := by decide +kernel
theorem dX6_count_138 : decode cX6_count 138 = .ok (.aload_n 0, 1) := by decide +kernel
theorem dX6_count_139 : decode cX6_count 139 = .ok (.iload_n 1, 1) := by decide +kernel
theorem dX6_count_140 : decode cX6_count 140 = .ok (.aload_n 0, 1) := by decide +kernel
theorem dX6_count_141 : decode cX6_count 141 = .ok (.getfield 40, 3) := by decide +kernel
theorem dX6_count_144 : decode cX6_count 144 = .ok (.invokevirtual 233, 3) := by decide +kernel
theorem dX6_count_147 : decode cX6_count 147 = .ok (.ireturn, 1) := by decide +kernel
set_option maxRecDepth 20000 in
theorem ggX6_changingCount_X4_sizesHere : GoodIn wsX6_changingCount wsX4_sizesHere := goodIn_r _ [7, 8, 9, 10, 11, 6, 12, 13, 14, 15, 16, 17, 18, 19, 20, 21, 22, 23, 40, 41, 42, 29, 30, 31, 32] (by decide +kernel) (by decide +kernel)
set_option maxRecDepth 20000 in
theorem gX6_changingCount_X4_sizesHere : GoodIn wsX6_changingCount (wsV RX6 236 RX4 yX4_sizesHere wsX4_sizesHere) := goodIn_app (goodIn_of _ (by decide +kernel)) ggX6_changingCount_X4_sizesHere
set_option maxRecDepth 20000 in
theorem ggX6_changingCount_X0_writtenByAll : GoodIn wsX6_changingCount wsX0_writtenByAll := goodIn_r _ [27, 28, 29, 30, 31, 32] (by decide +kernel) (by decide +kernel)
set_option maxRecDepth 20000 in
theorem gX6_changingCount_X0_writtenByAll : GoodIn wsX6_changingCount (wsV RX6 240 RX0 yX0_writtenByAll wsX0_writtenByAll) := goodIn_app (goodIn_of _ (by decide +kernel)) ggX6_changingCount_X0_writtenByAll
theorem dX6_changingCount_0 : decode cX6_changingCount 0 = .ok (.iload_n 1, 1) := by decide +kernel
theorem dX6_changingCount_1 : decode cX6_changingCount 1 = .ok (.lookupswitch 41 #[(2, 27), (7, 32)], 27) := by decide +kernel
theorem dX6_changingCount_28 : decode cX6_changingCount 28 = .ok (.aload_n 2, 1) := by decide +kernel
theorem dX6_changingCount_29 : decode cX6_changingCount 29 = .ok (.getfield 76, 3) := by decide +kernel
theorem dX6_changingCount_32 : decode cX6_changingCount 32 = .ok (.ireturn, 1) := by decide +kernel
theorem dX6_changingCount_33 : decode cX6_changingCount 33 = .ok (.aload_n 0, 1) := by decide +kernel
theorem dX6_changingCount_34 : decode cX6_changingCount 34 = .ok (.getfield 19, 3) := by decide +kernel
theorem dX6_changingCount_37 : decode cX6_changingCount 37 = .ok (.aload_n 2, 1) := by decide +kernel
theorem dX6_changingCount_38 : decode cX6_changingCount 38 = .ok (.invokevirtual 236, 3) := by decide +kernel
theorem dX6_changingCount_41 : decode cX6_changingCount 41 = .ok (.ireturn, 1) := by decide +kernel
theorem dX6_changingCount_42 : decode cX6_changingCount 42 = .ok (.aload_n 2, 1) := by decide +kernel
theorem dX6_changingCount_43 : decode cX6_changingCount 43 = .ok (.invokevirtual 240, 3) := by decide +kernel
theorem dX6_changingCount_46 : decode cX6_changingCount 46 = .ok (.ireturn, 1) := by decide +kernel
set_option maxRecDepth 20000 in
theorem ggX6_pass_X6_checkDays : GoodIn wsX6_pass wsX6_checkDays := goodIn_ca (goodIn_r _ [6, 7, 8] (by decide +kernel) (by decide +kernel)) (goodIn_sub (fun _ h => List.mem_cons_of_mem _ (List.mem_append_right _ h)) (by decide +kernel))
set_option maxRecDepth 20000 in
theorem gX6_pass_X6_checkDays : GoodIn wsX6_pass (wsV RX6 243 RX6 yX6_checkDays wsX6_checkDays) := goodIn_app (goodIn_of _ (by decide +kernel)) ggX6_pass_X6_checkDays
set_option maxRecDepth 20000 in
theorem ggX6_pass_X6_letPass : GoodIn wsX6_pass wsX6_letPass := goodIn_r _ [12, 13, 14, 15, 16, 17, 5, 18, 19, 20, 21, 22, 23, 24, 25, 26, 27, 28, 29, 30, 31, 32, 33, 34, 35, 36, 37, 38, 39, 40, 41, 42, 43, 44, 45, 46, 47, 48, 49, 50, 51, 52, 53, 54, 55, 56, 57, 58, 59, 60, 61, 62, 63, 64, 65, 66, 67, 68, 69, 70, 71, 72, 73, 74, 75, 76, 77, 78, 79, 80, 81, 82, 83, 84, 85, 86, 87, 88, 89, 90, 91, 92, 93, 94, 95, 96, 97, 98, 99, 100, 101, 102, 103, 104, 105, 106, 107, 108, 109, 110, 111, 112, 113, 114, 115, 116, 117, 118, 119, 120, 121, 122, 123, 124, 125, 126, 127, 128, 129, 130, 131, 132, 133, 134, 135, 136, 137, 138, 139, 140, 141, 142, 143, 144, 145, 146, 147, 148, 149, 150, 151, 152, 153, 154, 155, 156, 157, 158, 159, 160, 161, 162, 163, 164, 165, 166, 167, 168, 169, 170, 171, 172, 173, 174, 175, 176, 177, 178, 179, 180, 181, 182, 183, 184, 185, 186, 187, 188, 189, 190, 191, 192, 193, 194, 195, 203, 204, 205, 206, 196, 197, 198, 199, 200, 201, 202, 207, 208, 209, 210, 211, 212, 213, 214, 215, 216, 217, 218, 219, 220, 221, 222, 223, 224, 225, 226, 227, 228] (by decide +kernel) (by decide +kernel)
set_option maxRecDepth 20000 in
theorem gX6_pass_X6_letPass : GoodIn wsX6_pass (wsV RX6 246 RX6 yX6_letPass wsX6_letPass) := goodIn_app (goodIn_of _ (by decide +kernel)) ggX6_pass_X6_letPass
theorem dX6_pass_0 : decode cX6_pass 0 = .ok (.aload_n 0, 1) := by decide +kernel
theorem dX6_pass_1 : decode cX6_pass 1 = .ok (.iload_n 1, 1) := by decide +kernel
theorem dX6_pass_2 : decode cX6_pass 2 = .ok (.invokevirtual 243, 3) := by decide +kernel
theorem dX6_pass_5 : decode cX6_pass 5 = .ok (.aload_n 0, 1) := by decide +kernel
theorem dX6_pass_6 : decode cX6_pass 6 = .ok (.iload_n 1, 1) := by decide +kernel
theorem dX6_pass_7 : decode cX6_pass 7 = .ok (.aload_n 0, 1) := by decide +kernel
theorem dX6_pass_8 : decode cX6_pass 8 = .ok (.getfield 40, 3) := by decide +kernel
theorem dX6_pass_11 : decode cX6_pass 11 = .ok (.invokevirtual 246, 3) := by decide +kernel
theorem dX6_pass_14 : decode cX6_pass 14 = .ok (.ireturn, 1) := by decide +kernel
set_option maxRecDepth 20000 in
theorem ggX6_foresee_X6_checkDays : GoodIn wsX6_foresee wsX6_checkDays := goodIn_ca (goodIn_r _ [9, 10, 11] (by decide +kernel) (by decide +kernel)) (goodIn_sub (fun _ h => List.mem_cons_of_mem _ (List.mem_append_right _ h)) (by decide +kernel))
set_option maxRecDepth 20000 in
theorem gX6_foresee_X6_checkDays : GoodIn wsX6_foresee (wsV RX6 243 RX6 yX6_checkDays wsX6_checkDays) := goodIn_app (goodIn_of _ (by decide +kernel)) ggX6_foresee_X6_checkDays
set_option maxRecDepth 20000 in
theorem ggX6_foresee_X0_becomeLike : GoodIn wsX6_foresee wsX0_becomeLike := goodIn_r _ [16, 17, 18, 19, 20, 224, 225, 226, 227] (by decide +kernel) (by decide +kernel)
set_option maxRecDepth 20000 in
theorem gX6_foresee_X0_becomeLike : GoodIn wsX6_foresee (wsV RX6 254 RX0 yX0_becomeLike wsX0_becomeLike) := goodIn_app (goodIn_of _ (by decide +kernel)) ggX6_foresee_X0_becomeLike
set_option maxRecDepth 20000 in
theorem ggX6_foresee_X6_letPass : GoodIn wsX6_foresee wsX6_letPass := goodIn_r _ [24, 25, 26, 27, 28, 29, 8, 30, 31, 32, 33, 34, 35, 36, 37, 38, 39, 40, 41, 42, 43, 44, 45, 46, 47, 48, 49, 50, 51, 52, 53, 54, 55, 56, 57, 58, 59, 60, 61, 62, 63, 64, 65, 66, 67, 68, 69, 70, 71, 72, 73, 74, 75, 15, 76, 19, 77, 78, 79, 80, 81, 82, 83, 84, 85, 86, 87, 88, 89, 90, 91, 92, 93, 94, 95, 96, 97, 17, 98, 99, 100, 101, 102, 103, 104, 105, 106, 107, 108, 109, 110, 111, 112, 113, 114, 115, 116, 117, 118, 119, 120, 121, 122, 123, 124, 125, 126, 127, 128, 129, 130, 131, 132, 133, 134, 135, 136, 137, 138, 139, 140, 141, 142, 143, 144, 145, 146, 147, 148, 149, 150, 151, 152, 153, 154, 155, 156, 157, 158, 159, 160, 161, 162, 163, 164, 165, 166, 167, 168, 169, 170, 171, 172, 173, 174, 175, 176, 177, 178, 179, 180, 181, 182, 183, 184, 185, 186, 187, 188, 189, 190, 191, 192, 193, 194, 195, 196, 197, 198, 199, 200, 201, 202, 203, 20, 224, 225, 226, 227, 217, 218, 219, 220, 221, 222, 223, 228, 229, 230, 231, 232, 233, 234, 235, 236, 237, 238, 239, 240, 241, 242, 243, 244, 245, 246, 247, 248, 249] (by decide +kernel) (by decide +kernel)
set_option maxRecDepth 20000 in
theorem gX6_foresee_X6_letPass : GoodIn wsX6_foresee (wsV RX6 246 RX6 yX6_letPass wsX6_letPass) := goodIn_app (goodIn_of _ (by decide +kernel)) ggX6_foresee_X6_letPass
set_option maxRecDepth 20000 in
theorem ggX6_foresee_X6_changingCount : GoodIn wsX6_foresee wsX6_changingCount := goodIn_r _ [207, 25, 31, 208, 209, 210, 37, 211, 44, 212, 35, 36, 38, 39, 40, 41, 42, 43, 190, 74, 75, 15, 76, 19, 213, 214, 215, 216, 20, 224, 225, 226, 227, 217, 218, 219, 220, 221, 222, 223, 228, 229, 230] (by decide +kernel) (by decide +kernel)
set_option maxRecDepth 20000 in
theorem gX6_foresee_X6_changingCount : GoodIn wsX6_foresee (wsV RX6 233 RX6 yX6_changingCount wsX6_changingCount) := goodIn_app (goodIn_of _ (by decide +kernel)) ggX6_foresee_X6_changingCount
theorem dX6_foresee_0 : decode cX6_foresee 0 = .ok (.aload_n 0, 1) := by decide +kernel
theorem dX6_foresee_1 : decode cX6_foresee 1 = .ok (.iload_n 1, 1) := by decide +kernel
theorem dX6_foresee_2 : decode cX6_foresee 2 = .ok (.invokevirtual 243, 3) := by decide +kernel
theorem dX6_foresee_5 : decode cX6_foresee 5 = .ok (.iload_n 2, 1) := by decide +kernel
theorem dX6_foresee_6 : decode cX6_foresee 6 = .ok (.iconst 2, 1) := by decide +kernel
theorem dX6_foresee_7 : decode cX6_foresee 7 = .ok (.if_icmp .eq 25, 3) := by decide +kernel
theorem dX6_foresee_10 : decode cX6_foresee 10 = .ok (.iload_n 2, 1) := by decide +kernel
theorem dX6_foresee_11 : decode cX6_foresee 11 = .ok (.bipush 7, 2) := by decide +kernel
theorem dX6_foresee_13 : decode cX6_foresee 13 = .ok (.if_icmp .eq 19, 3) := by decide +kernel
theorem dX6_foresee_16 : decode cX6_foresee 16 = .ok (.iload_n 2, 1) := by decide +kernel
theorem dX6_foresee_17 : decode cX6_foresee 17 = .ok (.bipush 10, 2) := by decide +kernel
theorem dX6_foresee_19 : decode cX6_foresee 19 = .ok (.if_icmp .eq 13, 3) := by decide +kernel
theorem dX6_foresee_22 : decode cX6_foresee 22 = .ok (.new 249, 3) := by decide +kernel
theorem dX6_foresee_25 : decode cX6_foresee 25 = .ok (.dup, 1) := by decide +kernel
theorem dX6_foresee_26 : decode cX6_foresee 26 = .ok (.ldc 251, 2) := by decide +kernel
theorem dX6_foresee_28 : decode cX6_foresee 28 = .ok (.invokespecial 253, 3) := by decide +kernel
theorem dX6_foresee_31 : decode cX6_foresee 31 = .ok (.athrow, 1) := by decide +kernel
theorem dX6_foresee_32 : decode cX6_foresee 32 = .ok (.aload_n 0, 1) := by decide +kernel
theorem dX6_foresee_33 : decode cX6_foresee 33 = .ok (.getfield 44, 3) := by decide +kernel
theorem dX6_foresee_36 : decode cX6_foresee 36 = .ok (.aload_n 0, 1) := by decide +kernel
theorem dX6_foresee_37 : decode cX6_foresee 37 = .ok (.getfield 40, 3) := by decide +kernel
theorem dX6_foresee_40 : decode cX6_foresee 40 = .ok (.invokevirtual 254, 3) := by decide +kernel
theorem dX6_foresee_43 : decode cX6_foresee 43 = .ok (.aload_n 0, 1) := by decide +kernel
theorem dX6_foresee_44 : decode cX6_foresee 44 = .ok (.iload_n 1, 1) := by decide +kernel
theorem dX6_foresee_45 : decode cX6_foresee 45 = .ok (.aload_n 0, 1) := by decide +kernel
theorem dX6_foresee_46 : decode cX6_foresee 46 = .ok (.getfield 44, 3) := by decide +kernel
theorem dX6_foresee_49 : decode cX6_foresee 49 = .ok (.invokevirtual 246, 3) := by decide +kernel
theorem dX6_foresee_52 : decode cX6_foresee 52 = .ok (.pop, 1) := by decide +kernel
theorem dX6_foresee_53 : decode cX6_foresee 53 = .ok (.aload_n 0, 1) := by decide +kernel
theorem dX6_foresee_54 : decode cX6_foresee 54 = .ok (.iload_n 2, 1) := by decide +kernel
theorem dX6_foresee_55 : decode cX6_foresee 55 = .ok (.aload_n 0, 1) := by decide +kernel
theorem dX6_foresee_56 : decode cX6_foresee 56 = .ok (.getfield 44, 3) := by decide +kernel
theorem dX6_foresee_59 : decode cX6_foresee 59 = .ok (.invokevirtual 233, 3) := by decide +kernel
theorem dX6_foresee_62 : decode cX6_foresee 62 = .ok (.ireturn, 1) := by decide +kernel
set_option maxRecDepth 20000 in
theorem ggX6_advise_X6_checkGate : GoodIn wsX6_advise wsX6_checkGate := goodIn_ca (goodIn_r _ [7, 8, 9, 10, 11, 142, 143, 144, 145, 146, 147, 148, 149, 150, 151] (by decide +kernel) (by decide +kernel)) (goodIn_sub (fun _ h => List.mem_cons_of_mem _ (List.mem_append_left _ (List.mem_append_right _ h))) (by decide +kernel))
set_option maxRecDepth 20000 in
theorem gX6_advise_X6_checkGate : GoodIn wsX6_advise (wsV RX6 178 RX6 yX6_checkGate wsX6_checkGate) := goodIn_app (goodIn_of _ (by decide +kernel)) ggX6_advise_X6_checkGate
set_option maxRecDepth 20000 in
theorem ggX6_advise_X6_checkRock : GoodIn wsX6_advise wsX6_checkRock := goodIn_ca (goodIn_r _ [15, 16, 17] (by decide +kernel) (by decide +kernel)) (goodIn_sub (fun _ h => List.mem_cons_of_mem _ (List.mem_append_right _ h)) (by decide +kernel))
set_option maxRecDepth 20000 in
theorem gX6_advise_X6_checkRock : GoodIn wsX6_advise (wsV RX6 58 RX6 yX6_checkRock wsX6_checkRock) := goodIn_app (goodIn_of _ (by decide +kernel)) ggX6_advise_X6_checkRock
set_option maxRecDepth 20000 in
theorem ggX6_advise_X6_look : GoodIn wsX6_advise wsX6_look := goodIn_r _ [21, 22, 10, 2, 23, 24, 25, 26, 27, 28, 29, 30, 31, 32, 33, 34, 35, 36, 37, 38, 39, 40, 41, 42, 43, 44, 45, 46, 47, 48, 49, 50, 51, 52, 53, 54, 55, 56, 57, 58, 59, 60, 61, 62, 63, 64, 65, 66, 67, 68, 69, 70, 71, 72, 73, 74, 75, 76, 77, 78, 79, 80, 6, 81, 82, 83, 84, 85, 86, 87, 88, 89, 90, 91, 92, 93, 94, 95, 96, 97, 98, 99, 100, 101, 102, 103, 104, 105, 106, 107, 108, 109, 110, 111, 112, 113, 114, 115, 116, 117, 118, 119, 120, 121, 142, 143, 144, 145, 146, 147, 148, 152, 153, 154, 155, 156, 149, 150, 151, 157, 158, 159, 160, 161, 162, 163, 164, 165, 166, 167, 168, 169, 170, 171, 172] (by decide +kernel) (by decide +kernel)
set_option maxRecDepth 20000 in
theorem gX6_advise_X6_look : GoodIn wsX6_advise (wsV RX6 181 RX6 yX6_look wsX6_look) := goodIn_app (goodIn_of _ (by decide +kernel)) ggX6_advise_X6_look
set_option maxRecDepth 20000 in
theorem ggX6_advise_X1_isBare : GoodIn wsX6_advise wsX1_isBare := goodIn_r _ [125, 73, 74, 75, 53, 76, 77, 57, 58, 59, 157, 158, 159, 160, 161, 162, 163, 164, 165] (by decide +kernel) (by decide +kernel)
set_option maxRecDepth 20000 in
theorem gX6_advise_X1_isBare : GoodIn wsX6_advise (wsV RX6 90 RX1 yX1_isBare wsX1_isBare) := goodIn_app (goodIn_of _ (by decide +kernel)) ggX6_advise_X1_isBare
set_option maxRecDepth 20000 in
theorem ggX6_advise_X6_beautyWithRock : GoodIn wsX6_advise wsX6_beautyWithRock := goodIn_r _ [129, 2, 1, 130, 131, 132, 53, 133, 134, 135, 136, 137, 77, 89, 94, 57, 58, 59, 18, 19, 20, 6, 21, 22, 10, 23, 24, 25, 26, 27, 28, 29, 30, 31, 32, 33, 34, 35, 36, 37, 38, 39, 40, 41, 42, 43, 44, 45, 46, 47, 48, 49, 50, 51, 52, 54, 55, 56, 60, 61, 62, 63, 64, 65, 66, 67, 68, 69, 70, 71, 72, 73, 74, 75, 76, 78, 79, 80, 81, 82, 83, 84, 85, 86, 87, 88, 90, 91, 92, 93, 95, 96, 97, 98, 99, 100, 101, 102, 103, 104, 105, 106, 107, 108, 109, 110, 111, 112, 113, 114, 115, 116, 117, 118, 119, 120, 121, 138, 139, 140, 141, 142, 143, 144, 145, 146, 147, 148, 157, 158, 159, 160, 161, 162, 163, 164, 165, 152, 153, 154, 155, 156, 149, 150, 151, 166, 167, 168, 169, 170, 171, 172] (by decide +kernel) (by decide +kernel)
set_option maxRecDepth 20000 in
theorem gX6_advise_X6_beautyWithRock : GoodIn wsX6_advise (wsV RX6 258 RX6 yX6_beautyWithRock wsX6_beautyWithRock) := goodIn_app (goodIn_of _ (by decide +kernel)) ggX6_advise_X6_beautyWithRock
theorem dX6_advise_0 : decode cX6_advise 0 = .ok (.aload_n 0, 1) := by decide +kernel
theorem dX6_advise_1 : decode cX6_advise 1 = .ok (.iload_n 1, 1) := by decide +kernel
theorem dX6_advise_2 : decode cX6_advise 2 = .ok (.invokevirtual 178, 3) := by decide +kernel
theorem dX6_advise_5 : decode cX6_advise 5 = .ok (.aload_n 0, 1) := by decide +kernel
theorem dX6_advise_6 : decode cX6_advise 6 = .ok (.iload_n 2, 1) := by decide +kernel
theorem dX6_advise_7 : decode cX6_advise 7 = .ok (.iload_n 3, 1) := by decide +kernel
theorem dX6_advise_8 : decode cX6_advise 8 = .ok (.invokevirtual 58, 3) := by decide +kernel
theorem dX6_advise_11 : decode cX6_advise 11 = .ok (.iconst (-1), 1) := by decide +kernel
theorem dX6_advise_12 : decode cX6_advise 12 = .ok (.istore 4, 2) := by decide +kernel
theorem dX6_advise_14 : decode cX6_advise 14 = .ok (.aload_n 0, 1) := by decide +kernel
theorem dX6_advise_15 : decode cX6_advise 15 = .ok (.iload_n 1, 1) := by decide +kernel
theorem dX6_advise_16 : decode cX6_advise 16 = .ok (.aload_n 0, 1) := by decide +kernel
theorem dX6_advise_17 : decode cX6_advise 17 = .ok (.getfield 40, 3) := by decide +kernel
theorem dX6_advise_20 : decode cX6_advise 20 = .ok (.invokevirtual 181, 3) := by decide +kernel
theorem dX6_advise_23 : decode cX6_advise 23 = .ok (.istore 5, 2) := by decide +kernel
theorem dX6_advise_25 : decode cX6_advise 25 = .ok (.iconst 0, 1) := by decide +kernel
theorem dX6_advise_26 : decode cX6_advise 26 = .ok (.istore 6, 2) := by decide +kernel
theorem dX6_advise_28 : decode cX6_advise 28 = .ok (.iload 6, 2) := by decide +kernel
theorem dX6_advise_30 : decode cX6_advise 30 = .ok (.bipush 70, 2) := by decide +kernel
theorem dX6_advise_32 : decode cX6_advise 32 = .ok (.if_icmp .ge 47, 3) := by decide +kernel
theorem dX6_advise_35 : decode cX6_advise 35 = .ok (.aload_n 0, 1) := by decide +kernel
theorem dX6_advise_36 : decode cX6_advise 36 = .ok (.getfield 10, 3) := by decide +kernel
theorem dX6_advise_39 : decode cX6_advise 39 = .ok (.iload 6, 2) := by decide +kernel
theorem dX6_advise_41 : decode cX6_advise 41 = .ok (.invokevirtual 90, 3) := by decide +kernel
theorem dX6_advise_44 : decode cX6_advise 44 = .ok (.ifCond .eq 29, 3) := by decide +kernel
theorem dX6_advise_47 : decode cX6_advise 47 = .ok (.aload_n 0, 1) := by decide +kernel
theorem dX6_advise_48 : decode cX6_advise 48 = .ok (.iload_n 1, 1) := by decide +kernel
theorem dX6_advise_49 : decode cX6_advise 49 = .ok (.iload 6, 2) := by decide +kernel
theorem dX6_advise_51 : decode cX6_advise 51 = .ok (.iload_n 2, 1) := by decide +kernel
theorem dX6_advise_52 : decode cX6_advise 52 = .ok (.iload_n 3, 1) := by decide +kernel
theorem dX6_advise_53 : decode cX6_advise 53 = .ok (.invokevirtual 258, 3) := by decide +kernel
theorem dX6_advise_56 : decode cX6_advise 56 = .ok (.istore 7, 2) := by decide +kernel
theorem dX6_advise_58 : decode cX6_advise 58 = .ok (.iload 7, 2) := by decide +kernel
theorem dX6_advise_60 : decode cX6_advise 60 = .ok (.iload 5, 2) := by decide +kernel
theorem dX6_advise_62 : decode cX6_advise 62 = .ok (.if_icmp .le 11, 3) := by decide +kernel
theorem dX6_advise_65 : decode cX6_advise 65 = .ok (.iload 6, 2) := by decide +kernel
theorem dX6_advise_67 : decode cX6_advise 67 = .ok (.istore 4, 2) := by decide +kernel
theorem dX6_advise_69 : decode cX6_advise 69 = .ok (.iload 7, 2) := by decide +kernel
theorem dX6_advise_71 : decode cX6_advise 71 = .ok (.istore 5, 2) := by decide +kernel
theorem dX6_advise_73 : decode cX6_advise 73 = .ok (.iinc 6 1, 3) := by decide +kernel
theorem dX6_advise_76 : decode cX6_advise 76 = .ok (.goto (-48), 3) := by decide +kernel
theorem dX6_advise_79 : decode cX6_advise 79 = .ok (.iload 4, 2) := by decide +kernel
theorem dX6_advise_81 : decode cX6_advise 81 = .ok (.ireturn, 1) := by decide +kernel
set_option maxRecDepth 20000 in
theorem ggX6_finest_X6_look : GoodIn wsX6_finest wsX6_look := goodIn_r _ [8, 9, 1, 10, 11, 12, 13, 14, 15, 16, 17, 18, 19, 20, 21, 22, 23, 24, 25, 26, 27, 28, 29, 30, 31, 32, 33, 34, 35, 36, 37, 38, 39, 40, 41, 42, 43, 44, 45, 46, 47, 48, 49, 50, 51, 52, 53, 54, 55, 56, 57, 58, 59, 60, 61, 62, 63, 64, 65, 66, 67, 68, 7, 69, 70, 71, 72, 73, 74, 75, 76, 77, 78, 79, 80, 81, 82, 83, 84, 85, 86, 87, 88, 89, 90, 91, 92, 93, 94, 95, 96, 97, 98, 99, 100, 101, 102, 103, 104, 105, 106, 107, 108, 109, 110, 111, 112, 113, 114, 115, 116, 120, 121, 122, 123, 124, 117, 118, 119, 125, 126, 127, 128, 129, 130, 131, 132, 133, 134, 135, 136, 137, 138, 139, 140] (by decide +kernel) (by decide +kernel)
set_option maxRecDepth 20000 in
theorem gX6_finest_X6_look : GoodIn wsX6_finest (wsV RX6 181 RX6 yX6_look wsX6_look) := goodIn_app (goodIn_of _ (by decide +kernel)) ggX6_finest_X6_look
theorem dX6_finest_0 : decode cX6_finest 0 = .ok (.iconst (-1), 1) := by decide +kernel
theorem dX6_finest_1 : decode cX6_finest 1 = .ok (.istore_n 1, 1) := by decide +kernel
theorem dX6_finest_2 : decode cX6_finest 2 = .ok (.iconst (-1), 1) := by decide +kernel
theorem dX6_finest_3 : decode cX6_finest 3 = .ok (.istore_n 2, 1) := by decide +kernel
theorem dX6_finest_4 : decode cX6_finest 4 = .ok (.iconst 0, 1) := by decide +kernel
theorem dX6_finest_5 : decode cX6_finest 5 = .ok (.istore_n 3, 1) := by decide +kernel
theorem dX6_finest_6 : decode cX6_finest 6 = .ok (.iload_n 3, 1) := by decide +kernel
theorem dX6_finest_7 : decode cX6_finest 7 = .ok (.aload_n 0, 1) := by decide +kernel
theorem dX6_finest_8 : decode cX6_finest 8 = .ok (.getfield 26, 3) := by decide +kernel
theorem dX6_finest_11 : decode cX6_finest 11 = .ok (.getfield 171, 3) := by decide +kernel
theorem dX6_finest_14 : decode cX6_finest 14 = .ok (.if_icmp .ge 31, 3) := by decide +kernel
theorem dX6_finest_17 : decode cX6_finest 17 = .ok (.aload_n 0, 1) := by decide +kernel
theorem dX6_finest_18 : decode cX6_finest 18 = .ok (.iload_n 3, 1) := by decide +kernel
theorem dX6_finest_19 : decode cX6_finest 19 = .ok (.aload_n 0, 1) := by decide +kernel
theorem dX6_finest_20 : decode cX6_finest 20 = .ok (.getfield 40, 3) := by decide +kernel
theorem dX6_finest_23 : decode cX6_finest 23 = .ok (.invokevirtual 181, 3) := by decide +kernel
theorem dX6_finest_26 : decode cX6_finest 26 = .ok (.istore 4, 2) := by decide +kernel
theorem dX6_finest_28 : decode cX6_finest 28 = .ok (.iload 4, 2) := by decide +kernel
theorem dX6_finest_30 : decode cX6_finest 30 = .ok (.iload_n 2, 1) := by decide +kernel
theorem dX6_finest_31 : decode cX6_finest 31 = .ok (.if_icmp .le 8, 3) := by decide +kernel
theorem dX6_finest_34 : decode cX6_finest 34 = .ok (.iload_n 3, 1) := by decide +kernel
theorem dX6_finest_35 : decode cX6_finest 35 = .ok (.istore_n 1, 1) := by decide +kernel
theorem dX6_finest_36 : decode cX6_finest 36 = .ok (.iload 4, 2) := by decide +kernel
theorem dX6_finest_38 : decode cX6_finest 38 = .ok (.istore_n 2, 1) := by decide +kernel
theorem dX6_finest_39 : decode cX6_finest 39 = .ok (.iinc 3 1, 3) := by decide +kernel
theorem dX6_finest_42 : decode cX6_finest 42 = .ok (.goto (-36), 3) := by decide +kernel
theorem dX6_finest_45 : decode cX6_finest 45 = .ok (.iload_n 1, 1) := by decide +kernel
theorem dX6_finest_46 : decode cX6_finest 46 = .ok (.ireturn, 1) := by decide +kernel
set_option maxRecDepth 20000 in
theorem ggX6_mean_X6_look : GoodIn wsX6_mean wsX6_look := goodIn_r _ [8, 9, 1, 10, 11, 12, 13, 14, 15, 16, 17, 18, 19, 20, 21, 22, 23, 24, 25, 26, 27, 28, 29, 30, 31, 32, 33, 34, 35, 36, 37, 38, 39, 40, 41, 42, 43, 44, 45, 46, 47, 48, 49, 50, 51, 52, 53, 54, 55, 56, 57, 58, 59, 60, 61, 62, 63, 64, 65, 66, 67, 68, 7, 69, 70, 71, 72, 73, 74, 75, 76, 77, 78, 79, 80, 81, 82, 83, 84, 85, 86, 87, 88, 89, 90, 91, 92, 93, 94, 95, 96, 97, 98, 99, 100, 101, 102, 103, 104, 105, 106, 107, 108, 109, 110, 111, 112, 113, 114, 115, 116, 120, 121, 122, 123, 124, 117, 118, 119, 125, 126, 127, 128, 129, 130, 131, 132, 133, 134, 135, 136, 137, 138, 139, 140] (by decide +kernel) (by decide +kernel)
set_option maxRecDepth 20000 in
theorem gX6_mean_X6_look : GoodIn wsX6_mean (wsV RX6 181 RX6 yX6_look wsX6_look) := goodIn_app (goodIn_of _ (by decide +kernel)) ggX6_mean_X6_look
theorem dX6_mean_0 : decode cX6_mean 0 = .ok (.aload_n 0, 1) := by decide +kernel
theorem dX6_mean_1 : decode cX6_mean 1 = .ok (.getfield 26, 3) := by decide +kernel
theorem dX6_mean_4 : decode cX6_mean 4 = .ok (.getfield 171, 3) := by decide +kernel
theorem dX6_mean_7 : decode cX6_mean 7 = .ok (.ifCond .gt 5, 3) := by decide +kernel
theorem dX6_mean_10 : decode cX6_mean 10 = .ok (.dconst 0, 1) := by decide +kernel
theorem dX6_mean_11 : decode cX6_mean 11 = .ok (.dreturn, 1) := by decide +kernel
theorem dX6_mean_12 : decode cX6_mean 12 = .ok (.iconst 0, 1) := by decide +kernel
theorem dX6_mean_13 : decode cX6_mean 13 = .ok (.istore_n 1, 1) := by decide +kernel
theorem dX6_mean_14 : decode cX6_mean 14 = .ok (.iconst 0, 1) := by decide +kernel
theorem dX6_mean_15 : decode cX6_mean 15 = .ok (.istore_n 2, 1) := by decide +kernel
theorem dX6_mean_16 : decode cX6_mean 16 = .ok (.iload_n 2, 1) := by decide +kernel
theorem dX6_mean_17 : decode cX6_mean 17 = .ok (.aload_n 0, 1) := by decide +kernel
theorem dX6_mean_18 : decode cX6_mean 18 = .ok (.getfield 26, 3) := by decide +kernel
theorem dX6_mean_21 : decode cX6_mean 21 = .ok (.getfield 171, 3) := by decide +kernel
theorem dX6_mean_24 : decode cX6_mean 24 = .ok (.if_icmp .ge 21, 3) := by decide +kernel
theorem dX6_mean_27 : decode cX6_mean 27 = .ok (.iload_n 1, 1) := by decide +kernel
theorem dX6_mean_28 : decode cX6_mean 28 = .ok (.aload_n 0, 1) := by decide +kernel
theorem dX6_mean_29 : decode cX6_mean 29 = .ok (.iload_n 2, 1) := by decide +kernel
theorem dX6_mean_30 : decode cX6_mean 30 = .ok (.aload_n 0, 1) := by decide +kernel
theorem dX6_mean_31 : decode cX6_mean 31 = .ok (.getfield 40, 3) := by decide +kernel
theorem dX6_mean_34 : decode cX6_mean 34 = .ok (.invokevirtual 181, 3) := by decide +kernel
theorem dX6_mean_37 : decode cX6_mean 37 = .ok (.iadd, 1) := by decide +kernel
theorem dX6_mean_38 : decode cX6_mean 38 = .ok (.istore_n 1, 1) := by decide +kernel
theorem dX6_mean_39 : decode cX6_mean 39 = .ok (.iinc 2 1, 3) := by decide +kernel
theorem dX6_mean_42 : decode cX6_mean 42 = .ok (.goto (-26), 3) := by decide +kernel
theorem dX6_mean_45 : decode cX6_mean 45 = .ok (.iload_n 1, 1) := by decide +kernel
theorem dX6_mean_46 : decode cX6_mean 46 = .ok (.i2d, 1) := by decide +kernel
theorem dX6_mean_47 : decode cX6_mean 47 = .ok (.aload_n 0, 1) := by decide +kernel
theorem dX6_mean_48 : decode cX6_mean 48 = .ok (.getfield 26, 3) := by decide +kernel
theorem dX6_mean_51 : decode cX6_mean 51 = .ok (.getfield 171, 3) := by decide +kernel
theorem dX6_mean_54 : decode cX6_mean 54 = .ok (.i2d, 1) := by decide +kernel
theorem dX6_mean_55 : decode cX6_mean 55 = .ok (.ddiv, 1) := by decide +kernel
theorem dX6_mean_56 : decode cX6_mean 56 = .ok (.dreturn, 1) := by decide +kernel
set_option maxRecDepth 20000 in
theorem ggX6_digest_X6_count : GoodIn wsX6_digest wsX6_count := goodIn_ca (goodIn_r _ [9, 10, 11, 12, 13, 14, 15, 16, 3, 4, 17, 18, 19, 8, 20, 21, 22, 23, 24, 25, 26, 27, 28, 29, 30, 31, 32, 33, 34, 35, 36, 37, 38, 39, 40, 41, 42, 43, 44, 45, 46, 47, 48, 49, 50, 51, 52, 53, 54, 55, 56, 57, 58, 59, 60, 61, 62, 63, 64, 65, 66, 67, 68, 254, 255, 256, 257, 258, 259, 260, 263, 264, 265, 266, 267, 268, 269, 270, 271, 272, 273, 274, 275, 276, 277, 278, 261, 262, 279, 280, 281] (by decide +kernel) (by decide +kernel)) (goodIn_sub (fun _ h => List.mem_cons_of_mem _ (List.mem_append_right _ h)) (by decide +kernel))
set_option maxRecDepth 20000 in
theorem gX6_digest_X6_count : GoodIn wsX6_digest (wsV RX6 266 RX6 yX6_count wsX6_count) := goodIn_app (goodIn_of _ (by decide +kernel)) ggX6_digest_X6_count
set_option maxRecDepth 20000 in
theorem ggX6_digest_X6_digestOfCells : GoodIn wsX6_digest wsX6_digestOfCells := goodIn_ca (goodIn_r _ [72, 2, 73, 74, 75, 8, 76, 12, 77, 78, 79, 80, 21, 22, 81, 82, 32, 83, 17, 18, 19, 20, 84, 85, 86, 87, 88, 89, 90, 34, 91, 92, 93, 94, 95, 96, 97, 98, 99, 100, 101, 102, 103, 104, 105, 106, 107, 108, 109, 110, 111, 112, 113, 114, 115, 116, 117, 118, 254, 255, 256, 257, 258, 259, 260, 267, 268, 269, 270, 271, 272, 273, 274, 275] (by decide +kernel) (by decide +kernel)) (goodIn_sub (fun _ h => List.mem_cons_of_mem _ (List.mem_append_right _ h)) (by decide +kernel))
set_option maxRecDepth 20000 in
theorem gX6_digest_X6_digestOfCells : GoodIn wsX6_digest (wsV RX6 269 RX6 yX6_digestOfCells wsX6_digestOfCells) := goodIn_app (goodIn_of _ (by decide +kernel)) ggX6_digest_X6_digestOfCells
set_option maxRecDepth 20000 in
theorem ggX6_digest_X6_digestOfCarps : GoodIn wsX6_digest wsX6_digestOfCarps := goodIn_ca (goodIn_r _ [122, 14, 123, 2, 124, 125, 126, 8, 127, 10, 128, 129, 130, 131, 21, 22, 17, 18, 19, 20, 132, 133, 134, 38, 135, 136, 46, 47, 48, 49, 40, 137, 60, 61, 26, 62, 63, 138, 42, 43, 44, 45, 139, 140, 141, 142, 254, 255, 256, 257, 258, 259, 260, 279, 280, 281, 263, 264, 265, 266] (by decide +kernel) (by decide +kernel)) (goodIn_sub (fun _ h => List.mem_cons_of_mem _ (List.mem_append_right _ h)) (by decide +kernel))
set_option maxRecDepth 20000 in
theorem gX6_digest_X6_digestOfCarps : GoodIn wsX6_digest (wsV RX6 273 RX6 yX6_digestOfCarps wsX6_digestOfCarps) := goodIn_app (goodIn_of _ (by decide +kernel)) ggX6_digest_X6_digestOfCarps
set_option maxRecDepth 20000 in
theorem ggX6_digest_X6_digestOfGates : GoodIn wsX6_digest wsX6_digestOfGates := goodIn_ca (goodIn_r _ [146, 15, 16, 2, 147, 148, 149, 8, 150, 10, 151, 152, 153, 154, 155, 3, 156, 157, 158, 159, 21, 22, 17, 18, 19, 20, 160, 161, 162, 163, 12, 164, 165, 166, 167, 168, 169, 170, 171, 172, 173, 174, 175, 176, 177, 178, 179, 180, 181, 182, 183, 184, 185, 186, 187, 188, 189, 190, 191, 192, 32, 193, 194, 195, 91, 92, 93, 196, 197, 198, 199, 82, 83, 200, 85, 86, 201, 202, 203, 204, 205, 88, 89, 90, 34, 206, 207, 208, 209, 14, 87, 94, 95, 96, 97, 98, 99, 100, 101, 102, 103, 210, 211, 212, 213, 214, 215, 216, 38, 217, 40, 136, 45, 59, 60, 61, 26, 62, 63, 218, 219, 220, 221, 222, 223, 224, 225, 226, 227, 228, 229, 230, 231, 232, 233, 234, 235, 236, 237, 238, 239, 240, 241, 254, 255, 256, 257, 258, 259, 260, 276, 277, 278, 282, 283, 284, 285, 286, 267, 268, 269, 270, 271, 272, 273, 274, 275, 279, 280, 281, 263, 264, 265, 266, 261, 262] (by decide +kernel) (by decide +kernel)) (goodIn_sub (fun _ h => List.mem_cons_of_mem _ (List.mem_append_right _ h)) (by decide +kernel))
set_option maxRecDepth 20000 in
theorem gX6_digest_X6_digestOfGates : GoodIn wsX6_digest (wsV RX6 276 RX6 yX6_digestOfGates wsX6_digestOfGates) := goodIn_app (goodIn_of _ (by decide +kernel)) ggX6_digest_X6_digestOfGates
set_option maxRecDepth 20000 in
theorem ggX6_digest_X6_lines : GoodIn wsX6_digest wsX6_lines := goodIn_ca (goodIn_r _ [245, 10, 246, 247, 248, 8, 249, 21, 22, 3, 4, 250, 251, 252, 26, 253, 68, 254, 255, 256, 257, 258, 259, 260, 261, 262, 263, 264, 265, 266] (by decide +kernel) (by decide +kernel)) (goodIn_sub (fun _ h => List.mem_cons_of_mem _ (List.mem_append_right _ h)) (by decide +kernel))
set_option maxRecDepth 20000 in
theorem gX6_digest_X6_lines : GoodIn wsX6_digest (wsV RX6 279 RX6 yX6_lines wsX6_lines) := goodIn_app (goodIn_of _ (by decide +kernel)) ggX6_digest_X6_lines
theorem dX6_digest_0 : decode cX6_digest 0 = .ok (.ldc2_w 262, 3) := by decide +kernel
theorem dX6_digest_3 : decode cX6_digest 3 = .ok (.lstore_n 1, 1) := by decide +kernel
theorem dX6_digest_4 : decode cX6_digest 4 = .ok (.iconst 0, 1) := by decide +kernel
theorem dX6_digest_5 : decode cX6_digest 5 = .ok (.istore_n 3, 1) := by decide +kernel
theorem dX6_digest_6 : decode cX6_digest 6 = .ok (.iload_n 3, 1) := by decide +kernel
theorem dX6_digest_7 : decode cX6_digest 7 = .ok (.bipush 11, 2) := by decide +kernel
theorem dX6_digest_9 : decode cX6_digest 9 = .ok (.if_icmp .ge 22, 3) := by decide +kernel
theorem dX6_digest_12 : decode cX6_digest 12 = .ok (.lload_n 1, 1) := by decide +kernel
theorem dX6_digest_13 : decode cX6_digest 13 = .ok (.ldc2_w 264, 3) := by decide +kernel
theorem dX6_digest_16 : decode cX6_digest 16 = .ok (.lmul, 1) := by decide +kernel
theorem dX6_digest_17 : decode cX6_digest 17 = .ok (.aload_n 0, 1) := by decide +kernel
theorem dX6_digest_18 : decode cX6_digest 18 = .ok (.iload_n 3, 1) := by decide +kernel
theorem dX6_digest_19 : decode cX6_digest 19 = .ok (.invokevirtual 266, 3) := by decide +kernel
theorem dX6_digest_22 : decode cX6_digest 22 = .ok (.i2l, 1) := by decide +kernel
theorem dX6_digest_23 : decode cX6_digest 23 = .ok (.ladd, 1) := by decide +kernel
theorem dX6_digest_24 : decode cX6_digest 24 = .ok (.lstore_n 1, 1) := by decide +kernel
theorem dX6_digest_25 : decode cX6_digest 25 = .ok (.iinc 3 1, 3) := by decide +kernel
theorem dX6_digest_28 : decode cX6_digest 28 = .ok (.goto (-22), 3) := by decide +kernel
theorem dX6_digest_31 : decode cX6_digest 31 = .ok (.aload_n 0, 1) := by decide +kernel
theorem dX6_digest_32 : decode cX6_digest 32 = .ok (.lload_n 1, 1) := by decide +kernel
theorem dX6_digest_33 : decode cX6_digest 33 = .ok (.invokevirtual 269, 3) := by decide +kernel
theorem dX6_digest_36 : decode cX6_digest 36 = .ok (.lstore_n 1, 1) := by decide +kernel
theorem dX6_digest_37 : decode cX6_digest 37 = .ok (.aload_n 0, 1) := by decide +kernel
theorem dX6_digest_38 : decode cX6_digest 38 = .ok (.lload_n 1, 1) := by decide +kernel
theorem dX6_digest_39 : decode cX6_digest 39 = .ok (.invokevirtual 273, 3) := by decide +kernel
theorem dX6_digest_42 : decode cX6_digest 42 = .ok (.lstore_n 1, 1) := by decide +kernel
theorem dX6_digest_43 : decode cX6_digest 43 = .ok (.aload_n 0, 1) := by decide +kernel
theorem dX6_digest_44 : decode cX6_digest 44 = .ok (.lload_n 1, 1) := by decide +kernel
theorem dX6_digest_45 : decode cX6_digest 45 = .ok (.invokevirtual 276, 3) := by decide +kernel
theorem dX6_digest_48 : decode cX6_digest 48 = .ok (.lstore_n 1, 1) := by decide +kernel
theorem dX6_digest_49 : decode cX6_digest 49 = .ok (.iconst 0, 1) := by decide +kernel
theorem dX6_digest_50 : decode cX6_digest 50 = .ok (.istore_n 3, 1) := by decide +kernel
theorem dX6_digest_51 : decode cX6_digest 51 = .ok (.iload_n 3, 1) := by decide +kernel
theorem dX6_digest_52 : decode cX6_digest 52 = .ok (.aload_n 0, 1) := by decide +kernel
theorem dX6_digest_53 : decode cX6_digest 53 = .ok (.getfield 33, 3) := by decide +kernel
theorem dX6_digest_56 : decode cX6_digest 56 = .ok (.getfield 200, 3) := by decide +kernel
theorem dX6_digest_59 : decode cX6_digest 59 = .ok (.if_icmp .ge 22, 3) := by decide +kernel
theorem dX6_digest_62 : decode cX6_digest 62 = .ok (.lload_n 1, 1) := by decide +kernel
theorem dX6_digest_63 : decode cX6_digest 63 = .ok (.ldc2_w 264, 3) := by decide +kernel
theorem dX6_digest_66 : decode cX6_digest 66 = .ok (.lmul, 1) := by decide +kernel
theorem dX6_digest_67 : decode cX6_digest 67 = .ok (.aload_n 0, 1) := by decide +kernel
theorem dX6_digest_68 : decode cX6_digest 68 = .ok (.iload_n 3, 1) := by decide +kernel
theorem dX6_digest_69 : decode cX6_digest 69 = .ok (.invokevirtual 279, 3) := by decide +kernel
theorem dX6_digest_72 : decode cX6_digest 72 = .ok (.i2l, 1) := by decide +kernel
theorem dX6_digest_73 : decode cX6_digest 73 = .ok (.ladd, 1) := by decide +kernel
theorem dX6_digest_74 : decode cX6_digest 74 = .ok (.lstore_n 1, 1) := by decide +kernel
theorem dX6_digest_75 : decode cX6_digest 75 = .ok (.iinc 3 1, 3) := by decide +kernel
theorem dX6_digest_78 : decode cX6_digest 78 = .ok (.goto (-27), 3) := by decide +kernel
theorem dX6_digest_81 : decode cX6_digest 81 = .ok (.lload_n 1, 1) := by decide +kernel
theorem dX6_digest_82 : decode cX6_digest 82 = .ok (.lreturn, 1) := by decide +kernel
set_option maxRecDepth 20000 in
theorem ggX6_digestOfCells_X6_cell : GoodIn wsX6_digestOfCells wsX6_cell := goodIn_ca (goodIn_r _ [6, 7, 8, 9, 10, 5, 11, 12, 13, 14, 15, 16, 17, 18, 19, 20, 21, 22, 23, 24, 25, 26, 27, 28, 29, 30, 31, 32, 33, 34, 35, 36, 37, 38, 39, 40, 41, 42, 43, 44, 45, 46, 47, 48, 49, 50, 51, 52, 53, 54, 55, 56, 57, 58, 59, 60, 61, 62, 63, 64, 65, 66, 67, 68, 69, 70, 71, 72, 73] (by decide +kernel) (by decide +kernel)) (goodIn_sub (fun _ h => List.mem_cons_of_mem _ (List.mem_append_right _ h)) (by decide +kernel))
set_option maxRecDepth 20000 in
theorem gX6_digestOfCells_X6_cell : GoodIn wsX6_digestOfCells (wsV RX6 282 RX6 yX6_cell wsX6_cell) := goodIn_app (goodIn_of _ (by decide +kernel)) ggX6_digestOfCells_X6_cell
theorem dX6_digestOfCells_0 : decode cX6_digestOfCells 0 = .ok (.lload_n 1, 1) := by decide +kernel
theorem dX6_digestOfCells_1 : decode cX6_digestOfCells 1 = .ok (.lstore_n 3, 1) := by decide +kernel
theorem dX6_digestOfCells_2 : decode cX6_digestOfCells 2 = .ok (.iconst 0, 1) := by decide +kernel
theorem dX6_digestOfCells_3 : decode cX6_digestOfCells 3 = .ok (.istore 5, 2) := by decide +kernel
theorem dX6_digestOfCells_5 : decode cX6_digestOfCells 5 = .ok (.iload 5, 2) := by decide +kernel
theorem dX6_digestOfCells_7 : decode cX6_digestOfCells 7 = .ok (.bipush 7, 2) := by decide +kernel
theorem dX6_digestOfCells_9 : decode cX6_digestOfCells 9 = .ok (.if_icmp .ge 58, 3) := by decide +kernel
theorem dX6_digestOfCells_12 : decode cX6_digestOfCells 12 = .ok (.iconst 0, 1) := by decide +kernel
theorem dX6_digestOfCells_13 : decode cX6_digestOfCells 13 = .ok (.istore 6, 2) := by decide +kernel
theorem dX6_digestOfCells_15 : decode cX6_digestOfCells 15 = .ok (.iload 6, 2) := by decide +kernel
theorem dX6_digestOfCells_17 : decode cX6_digestOfCells 17 = .ok (.bipush 10, 2) := by decide +kernel
theorem dX6_digestOfCells_19 : decode cX6_digestOfCells 19 = .ok (.if_icmp .ge 42, 3) := by decide +kernel
theorem dX6_digestOfCells_22 : decode cX6_digestOfCells 22 = .ok (.iconst 0, 1) := by decide +kernel
theorem dX6_digestOfCells_23 : decode cX6_digestOfCells 23 = .ok (.istore 7, 2) := by decide +kernel
theorem dX6_digestOfCells_25 : decode cX6_digestOfCells 25 = .ok (.iload 7, 2) := by decide +kernel
theorem dX6_digestOfCells_27 : decode cX6_digestOfCells 27 = .ok (.iconst 5, 1) := by decide +kernel
theorem dX6_digestOfCells_28 : decode cX6_digestOfCells 28 = .ok (.if_icmp .ge 27, 3) := by decide +kernel
theorem dX6_digestOfCells_31 : decode cX6_digestOfCells 31 = .ok (.lload_n 3, 1) := by decide +kernel
theorem dX6_digestOfCells_32 : decode cX6_digestOfCells 32 = .ok (.ldc2_w 264, 3) := by decide +kernel
theorem dX6_digestOfCells_35 : decode cX6_digestOfCells 35 = .ok (.lmul, 1) := by decide +kernel
theorem dX6_digestOfCells_36 : decode cX6_digestOfCells 36 = .ok (.aload_n 0, 1) := by decide +kernel
theorem dX6_digestOfCells_37 : decode cX6_digestOfCells 37 = .ok (.iload 6, 2) := by decide +kernel
theorem dX6_digestOfCells_39 : decode cX6_digestOfCells 39 = .ok (.iload 5, 2) := by decide +kernel
theorem dX6_digestOfCells_41 : decode cX6_digestOfCells 41 = .ok (.iload 7, 2) := by decide +kernel
theorem dX6_digestOfCells_43 : decode cX6_digestOfCells 43 = .ok (.invokevirtual 282, 3) := by decide +kernel
theorem dX6_digestOfCells_46 : decode cX6_digestOfCells 46 = .ok (.i2l, 1) := by decide +kernel
theorem dX6_digestOfCells_47 : decode cX6_digestOfCells 47 = .ok (.ladd, 1) := by decide +kernel
theorem dX6_digestOfCells_48 : decode cX6_digestOfCells 48 = .ok (.lstore_n 3, 1) := by decide +kernel
theorem dX6_digestOfCells_49 : decode cX6_digestOfCells 49 = .ok (.iinc 7 1, 3) := by decide +kernel
theorem dX6_digestOfCells_52 : decode cX6_digestOfCells 52 = .ok (.goto (-27), 3) := by decide +kernel
theorem dX6_digestOfCells_55 : decode cX6_digestOfCells 55 = .ok (.iinc 6 1, 3) := by decide +kernel
theorem dX6_digestOfCells_58 : decode cX6_digestOfCells 58 = .ok (.goto (-43), 3) := by decide +kernel
theorem dX6_digestOfCells_61 : decode cX6_digestOfCells 61 = .ok (.iinc 5 1, 3) := by decide +kernel
theorem dX6_digestOfCells_64 : decode cX6_digestOfCells 64 = .ok (.goto (-59), 3) := by decide +kernel
theorem dX6_digestOfCells_67 : decode cX6_digestOfCells 67 = .ok (.lload_n 3, 1) := by decide +kernel
theorem dX6_digestOfCells_68 : decode cX6_digestOfCells 68 = .ok (.lreturn, 1) := by decide +kernel
set_option maxRecDepth 20000 in
theorem ggX6_digestOfCarps_X6_told : GoodIn wsX6_digestOfCarps wsX6_told := goodIn_ca (goodIn_r _ [8, 1, 9, 10, 11, 12, 7, 13, 14, 15, 2, 16, 17, 18, 19, 20, 21, 22, 23, 24, 25, 26, 27, 28, 29, 30, 31, 32, 33, 34, 35, 36, 37, 38, 39, 40, 41, 42, 43, 44, 45, 46, 47, 48, 49, 50, 51, 52, 53, 54, 55, 56, 57, 58, 59] (by decide +kernel) (by decide +kernel)) (goodIn_sub (fun _ h => List.mem_cons_of_mem _ (List.mem_append_right _ h)) (by decide +kernel))
set_option maxRecDepth 20000 in
theorem gX6_digestOfCarps_X6_told : GoodIn wsX6_digestOfCarps (wsV RX6 286 RX6 yX6_told wsX6_told) := goodIn_app (goodIn_of _ (by decide +kernel)) ggX6_digestOfCarps_X6_told
theorem dX6_digestOfCarps_0 : decode cX6_digestOfCarps 0 = .ok (.lload_n 1, 1) := by decide +kernel
theorem dX6_digestOfCarps_1 : decode cX6_digestOfCarps 1 = .ok (.lstore_n 3, 1) := by decide +kernel
theorem dX6_digestOfCarps_2 : decode cX6_digestOfCarps 2 = .ok (.iconst 0, 1) := by decide +kernel
theorem dX6_digestOfCarps_3 : decode cX6_digestOfCarps 3 = .ok (.istore 5, 2) := by decide +kernel
theorem dX6_digestOfCarps_5 : decode cX6_digestOfCarps 5 = .ok (.iload 5, 2) := by decide +kernel
theorem dX6_digestOfCarps_7 : decode cX6_digestOfCarps 7 = .ok (.aload_n 0, 1) := by decide +kernel
theorem dX6_digestOfCarps_8 : decode cX6_digestOfCarps 8 = .ok (.getfield 19, 3) := by decide +kernel
theorem dX6_digestOfCarps_11 : decode cX6_digestOfCarps 11 = .ok (.getfield 129, 3) := by decide +kernel
theorem dX6_digestOfCarps_14 : decode cX6_digestOfCarps 14 = .ok (.if_icmp .ge 40, 3) := by decide +kernel
theorem dX6_digestOfCarps_17 : decode cX6_digestOfCarps 17 = .ok (.iconst 0, 1) := by decide +kernel
theorem dX6_digestOfCarps_18 : decode cX6_digestOfCarps 18 = .ok (.istore 6, 2) := by decide +kernel
theorem dX6_digestOfCarps_20 : decode cX6_digestOfCarps 20 = .ok (.iload 6, 2) := by decide +kernel
theorem dX6_digestOfCarps_22 : decode cX6_digestOfCarps 22 = .ok (.iconst 5, 1) := by decide +kernel
theorem dX6_digestOfCarps_23 : decode cX6_digestOfCarps 23 = .ok (.if_icmp .ge 25, 3) := by decide +kernel
theorem dX6_digestOfCarps_26 : decode cX6_digestOfCarps 26 = .ok (.lload_n 3, 1) := by decide +kernel
theorem dX6_digestOfCarps_27 : decode cX6_digestOfCarps 27 = .ok (.ldc2_w 264, 3) := by decide +kernel
theorem dX6_digestOfCarps_30 : decode cX6_digestOfCarps 30 = .ok (.lmul, 1) := by decide +kernel
theorem dX6_digestOfCarps_31 : decode cX6_digestOfCarps 31 = .ok (.aload_n 0, 1) := by decide +kernel
theorem dX6_digestOfCarps_32 : decode cX6_digestOfCarps 32 = .ok (.iload 5, 2) := by decide +kernel
theorem dX6_digestOfCarps_34 : decode cX6_digestOfCarps 34 = .ok (.iload 6, 2) := by decide +kernel
theorem dX6_digestOfCarps_36 : decode cX6_digestOfCarps 36 = .ok (.invokevirtual 286, 3) := by decide +kernel
theorem dX6_digestOfCarps_39 : decode cX6_digestOfCarps 39 = .ok (.i2l, 1) := by decide +kernel
theorem dX6_digestOfCarps_40 : decode cX6_digestOfCarps 40 = .ok (.ladd, 1) := by decide +kernel
theorem dX6_digestOfCarps_41 : decode cX6_digestOfCarps 41 = .ok (.lstore_n 3, 1) := by decide +kernel
theorem dX6_digestOfCarps_42 : decode cX6_digestOfCarps 42 = .ok (.iinc 6 1, 3) := by decide +kernel
theorem dX6_digestOfCarps_45 : decode cX6_digestOfCarps 45 = .ok (.goto (-25), 3) := by decide +kernel
theorem dX6_digestOfCarps_48 : decode cX6_digestOfCarps 48 = .ok (.iinc 5 1, 3) := by decide +kernel
theorem dX6_digestOfCarps_51 : decode cX6_digestOfCarps 51 = .ok (.goto (-46), 3) := by decide +kernel
theorem dX6_digestOfCarps_54 : decode cX6_digestOfCarps 54 = .ok (.lload_n 3, 1) := by decide +kernel
theorem dX6_digestOfCarps_55 : decode cX6_digestOfCarps 55 = .ok (.lreturn, 1) := by decide +kernel
set_option maxRecDepth 20000 in
theorem ggX6_digestOfGates_X6_about : GoodIn wsX6_digestOfGates wsX6_about := goodIn_ca (goodIn_r _ [8, 9, 10, 11, 12, 13, 14, 15, 16, 17, 18, 7, 19, 20, 21, 1, 2, 22, 23, 24, 25, 26, 27, 28, 29, 30, 31, 32, 33, 34, 35, 36, 37, 38, 39, 40, 41, 42, 43, 44, 45, 46, 47, 48, 49, 50, 51, 52, 53, 54, 55, 56, 57, 58, 59, 60, 61, 62, 63, 64, 65, 66, 67, 68, 69, 70, 71, 72, 73, 74, 75, 76, 77, 78, 79, 80, 81, 82, 83, 84, 85, 86, 87, 88, 89, 90, 91, 92, 93, 94, 95, 96, 97, 98, 99, 100, 101, 102, 103, 104, 105, 106, 107, 108, 109, 110, 111, 112, 113, 114, 115, 116, 117, 118, 119, 120, 121, 122, 123, 124, 125, 126, 127, 128, 129, 130, 131, 132, 133, 134, 135, 136, 137, 138, 139, 140, 141, 142, 143, 144, 145, 146, 147, 148, 149, 153, 154, 155, 156, 157, 150, 151, 152, 158, 159, 160, 161, 162, 163, 164, 165, 166, 167, 168, 169, 170, 171, 172, 173, 174, 175] (by decide +kernel) (by decide +kernel)) (goodIn_sub (fun _ h => List.mem_cons_of_mem _ (List.mem_append_right _ h)) (by decide +kernel))
set_option maxRecDepth 20000 in
theorem gX6_digestOfGates_X6_about : GoodIn wsX6_digestOfGates (wsV RX6 289 RX6 yX6_about wsX6_about) := goodIn_app (goodIn_of _ (by decide +kernel)) ggX6_digestOfGates_X6_about
theorem dX6_digestOfGates_0 : decode cX6_digestOfGates 0 = .ok (.lload_n 1, 1) := by decide +kernel
theorem dX6_digestOfGates_1 : decode cX6_digestOfGates 1 = .ok (.lstore_n 3, 1) := by decide +kernel
theorem dX6_digestOfGates_2 : decode cX6_digestOfGates 2 = .ok (.iconst 0, 1) := by decide +kernel
theorem dX6_digestOfGates_3 : decode cX6_digestOfGates 3 = .ok (.istore 5, 2) := by decide +kernel
theorem dX6_digestOfGates_5 : decode cX6_digestOfGates 5 = .ok (.iload 5, 2) := by decide +kernel
theorem dX6_digestOfGates_7 : decode cX6_digestOfGates 7 = .ok (.aload_n 0, 1) := by decide +kernel
theorem dX6_digestOfGates_8 : decode cX6_digestOfGates 8 = .ok (.getfield 26, 3) := by decide +kernel
theorem dX6_digestOfGates_11 : decode cX6_digestOfGates 11 = .ok (.getfield 171, 3) := by decide +kernel
theorem dX6_digestOfGates_14 : decode cX6_digestOfGates 14 = .ok (.if_icmp .ge 40, 3) := by decide +kernel
theorem dX6_digestOfGates_17 : decode cX6_digestOfGates 17 = .ok (.iconst 0, 1) := by decide +kernel
theorem dX6_digestOfGates_18 : decode cX6_digestOfGates 18 = .ok (.istore 6, 2) := by decide +kernel
theorem dX6_digestOfGates_20 : decode cX6_digestOfGates 20 = .ok (.iload 6, 2) := by decide +kernel
theorem dX6_digestOfGates_22 : decode cX6_digestOfGates 22 = .ok (.iconst 5, 1) := by decide +kernel
theorem dX6_digestOfGates_23 : decode cX6_digestOfGates 23 = .ok (.if_icmp .ge 25, 3) := by decide +kernel
theorem dX6_digestOfGates_26 : decode cX6_digestOfGates 26 = .ok (.lload_n 3, 1) := by decide +kernel
theorem dX6_digestOfGates_27 : decode cX6_digestOfGates 27 = .ok (.ldc2_w 264, 3) := by decide +kernel
theorem dX6_digestOfGates_30 : decode cX6_digestOfGates 30 = .ok (.lmul, 1) := by decide +kernel
theorem dX6_digestOfGates_31 : decode cX6_digestOfGates 31 = .ok (.aload_n 0, 1) := by decide +kernel
theorem dX6_digestOfGates_32 : decode cX6_digestOfGates 32 = .ok (.iload 5, 2) := by decide +kernel
theorem dX6_digestOfGates_34 : decode cX6_digestOfGates 34 = .ok (.iload 6, 2) := by decide +kernel
theorem dX6_digestOfGates_36 : decode cX6_digestOfGates 36 = .ok (.invokevirtual 289, 3) := by decide +kernel
theorem dX6_digestOfGates_39 : decode cX6_digestOfGates 39 = .ok (.i2l, 1) := by decide +kernel
theorem dX6_digestOfGates_40 : decode cX6_digestOfGates 40 = .ok (.ladd, 1) := by decide +kernel
theorem dX6_digestOfGates_41 : decode cX6_digestOfGates 41 = .ok (.lstore_n 3, 1) := by decide +kernel
theorem dX6_digestOfGates_42 : decode cX6_digestOfGates 42 = .ok (.iinc 6 1, 3) := by decide +kernel
theorem dX6_digestOfGates_45 : decode cX6_digestOfGates 45 = .ok (.goto (-25), 3) := by decide +kernel
theorem dX6_digestOfGates_48 : decode cX6_digestOfGates 48 = .ok (.iinc 5 1, 3) := by decide +kernel
theorem dX6_digestOfGates_51 : decode cX6_digestOfGates 51 = .ok (.goto (-46), 3) := by decide +kernel
theorem dX6_digestOfGates_54 : decode cX6_digestOfGates 54 = .ok (.lload_n 3, 1) := by decide +kernel
theorem dX6_digestOfGates_55 : decode cX6_digestOfGates 55 = .ok (.lreturn, 1) := by decide +kernel
set_option maxRecDepth 20000 in
theorem ggX6_letPass_X6_letCarpsGrow : GoodIn wsX6_letPass wsX6_letCarpsGrow := goodIn_r _ [7, 8, 9, 10, 11, 12, 13, 14, 15, 16, 17, 18, 19, 20, 21, 22, 23, 24, 25, 26, 27, 28, 29, 30, 31, 32, 33, 34, 35, 36, 37, 38, 39, 40, 41, 42, 43, 44, 45, 46, 47, 48, 49, 50, 51, 52, 53, 54, 55, 56, 57, 58, 59, 60, 61, 62, 63, 64, 65, 66, 189, 190, 191, 192, 193, 194, 195, 196, 197, 198, 199, 200, 201, 202, 203, 204, 205, 206, 207, 185, 186, 187, 188] (by decide +kernel) (by decide +kernel)
set_option maxRecDepth 20000 in
theorem gX6_letPass_X6_letCarpsGrow : GoodIn wsX6_letPass (wsV RX6 292 RX6 yX6_letCarpsGrow wsX6_letCarpsGrow) := goodIn_app (goodIn_of _ (by decide +kernel)) ggX6_letPass_X6_letCarpsGrow
set_option maxRecDepth 20000 in
theorem ggX6_letPass_X6_letPoetsWrite : GoodIn wsX6_letPass wsX6_letPoetsWrite := goodIn_r _ [70, 71, 72, 73, 74, 75, 53, 76, 77, 78, 79, 80, 81, 82, 83, 84, 85, 86, 87, 88, 89, 90, 91, 6, 92, 93, 94, 10, 95, 96, 97, 98, 99, 100, 101, 102, 103, 104, 105, 106, 107, 108, 109, 110, 111, 112, 113, 114, 115, 116, 117, 118, 119, 120, 121, 122, 123, 124, 30, 125, 126, 127, 42, 43, 44, 128, 129, 130, 131, 132, 133, 134, 135, 136, 137, 138, 139, 140, 141, 142, 143, 144, 145, 146, 147, 148, 149, 150, 8, 151, 152, 153, 154, 155, 156, 157, 158, 159, 160, 161, 162, 163, 164, 165, 166, 167, 168, 14, 169, 21, 26, 16, 170, 51, 52, 54, 55, 171, 172, 173, 174, 175, 176, 177, 178, 179, 180, 181, 182, 183, 184, 189, 190, 191, 192, 193, 194, 195, 208, 209, 185, 186, 187, 188, 210, 211, 212, 213, 214, 215, 216, 217, 199, 200, 201, 202, 203, 204, 205, 206, 207, 196, 197, 198] (by decide +kernel) (by decide +kernel)
set_option maxRecDepth 20000 in
theorem gX6_letPass_X6_letPoetsWrite : GoodIn wsX6_letPass (wsV RX6 295 RX6 yX6_letPoetsWrite wsX6_letPoetsWrite) := goodIn_app (goodIn_of _ (by decide +kernel)) ggX6_letPass_X6_letPoetsWrite
theorem dX6_letPass_0 : decode cX6_letPass 0 = .ok (.iconst 0, 1) := by decide +kernel
theorem dX6_letPass_1 : decode cX6_letPass 1 = .ok (.istore_n 3, 1) := by decide +kernel
theorem dX6_letPass_2 : decode cX6_letPass 2 = .ok (.iconst 0, 1) := by decide +kernel
theorem dX6_letPass_3 : decode cX6_letPass 3 = .ok (.istore 4, 2) := by decide +kernel
theorem dX6_letPass_5 : decode cX6_letPass 5 = .ok (.iload 4, 2) := by decide +kernel
theorem dX6_letPass_7 : decode cX6_letPass 7 = .ok (.iload_n 1, 1) := by decide +kernel
theorem dX6_letPass_8 : decode cX6_letPass 8 = .ok (.if_icmp .ge 50, 3) := by decide +kernel
theorem dX6_letPass_11 : decode cX6_letPass 11 = .ok (.aload_n 0, 1) := by decide +kernel
theorem dX6_letPass_12 : decode cX6_letPass 12 = .ok (.aload_n 2, 1) := by decide +kernel
theorem dX6_letPass_13 : decode cX6_letPass 13 = .ok (.invokevirtual 292, 3) := by decide +kernel
theorem dX6_letPass_16 : decode cX6_letPass 16 = .ok (.aload_n 0, 1) := by decide +kernel
theorem dX6_letPass_17 : decode cX6_letPass 17 = .ok (.aload_n 2, 1) := by decide +kernel
theorem dX6_letPass_18 : decode cX6_letPass 18 = .ok (.invokevirtual 295, 3) := by decide +kernel
theorem dX6_letPass_21 : decode cX6_letPass 21 = .ok (.istore 5, 2) := by decide +kernel
theorem dX6_letPass_23 : decode cX6_letPass 23 = .ok (.aload_n 2, 1) := by decide +kernel
theorem dX6_letPass_24 : decode cX6_letPass 24 = .ok (.dup, 1) := by decide +kernel
theorem dX6_letPass_25 : decode cX6_letPass 25 = .ok (.getfield 76, 3) := by decide +kernel
theorem dX6_letPass_28 : decode cX6_letPass 28 = .ok (.iload 5, 2) := by decide +kernel
theorem dX6_letPass_30 : decode cX6_letPass 30 = .ok (.bipush 10, 2) := by decide +kernel
theorem dX6_letPass_32 : decode cX6_letPass 32 = .ok (.idiv, 1) := by decide +kernel
theorem dX6_letPass_33 : decode cX6_letPass 33 = .ok (.iadd, 1) := by decide +kernel
theorem dX6_letPass_34 : decode cX6_letPass 34 = .ok (.putfield 76, 3) := by decide +kernel
theorem dX6_letPass_37 : decode cX6_letPass 37 = .ok (.aload_n 2, 1) := by decide +kernel
theorem dX6_letPass_38 : decode cX6_letPass 38 = .ok (.dup, 1) := by decide +kernel
theorem dX6_letPass_39 : decode cX6_letPass 39 = .ok (.getfield 216, 3) := by decide +kernel
theorem dX6_letPass_42 : decode cX6_letPass 42 = .ok (.iconst 1, 1) := by decide +kernel
theorem dX6_letPass_43 : decode cX6_letPass 43 = .ok (.iadd, 1) := by decide +kernel
theorem dX6_letPass_44 : decode cX6_letPass 44 = .ok (.putfield 216, 3) := by decide +kernel
theorem dX6_letPass_47 : decode cX6_letPass 47 = .ok (.iload_n 3, 1) := by decide +kernel
theorem dX6_letPass_48 : decode cX6_letPass 48 = .ok (.iload 5, 2) := by decide +kernel
theorem dX6_letPass_50 : decode cX6_letPass 50 = .ok (.iadd, 1) := by decide +kernel
theorem dX6_letPass_51 : decode cX6_letPass 51 = .ok (.istore_n 3, 1) := by decide +kernel
theorem dX6_letPass_52 : decode cX6_letPass 52 = .ok (.iinc 4 1, 3) := by decide +kernel
theorem dX6_letPass_55 : decode cX6_letPass 55 = .ok (.goto (-50), 3) := by decide +kernel
theorem dX6_letPass_58 : decode cX6_letPass 58 = .ok (.iload_n 3, 1) := by decide +kernel
theorem dX6_letPass_59 : decode cX6_letPass 59 = .ok (.ireturn, 1) := by decide +kernel
set_option maxRecDepth 20000 in
theorem ggX6_letCarpsGrow_X4_isHere : GoodIn wsX6_letCarpsGrow wsX4_isHere := goodIn_r _ [8, 9, 10, 11, 12, 7, 13, 14, 67, 68, 69] (by decide +kernel) (by decide +kernel)
set_option maxRecDepth 20000 in
theorem gX6_letCarpsGrow_X4_isHere : GoodIn wsX6_letCarpsGrow (wsV RX6 146 RX4 yX4_isHere wsX4_isHere) := goodIn_app (goodIn_of _ (by decide +kernel)) ggX6_letCarpsGrow_X4_isHere
set_option maxRecDepth 20000 in
theorem ggX6_letCarpsGrow_X4_placeOf : GoodIn wsX6_letCarpsGrow wsX4_placeOf := goodIn_r _ [18, 19, 10, 11, 12, 7, 13, 14, 67, 68, 69] (by decide +kernel) (by decide +kernel)
set_option maxRecDepth 20000 in
theorem gX6_letCarpsGrow_X4_placeOf : GoodIn wsX6_letCarpsGrow (wsV RX6 154 RX4 yX4_placeOf wsX4_placeOf) := goodIn_app (goodIn_of _ (by decide +kernel)) ggX6_letCarpsGrow_X4_placeOf
set_option maxRecDepth 20000 in
theorem ggX6_letCarpsGrow_X1_isTooFull : GoodIn wsX6_letCarpsGrow wsX1_isTooFull := goodIn_r _ [24, 25, 26, 27, 23, 28, 29, 30, 31, 32, 33, 34, 35, 36, 37, 38, 39, 40, 41, 42, 70, 71, 72, 73, 74, 75, 76, 77, 78] (by decide +kernel) (by decide +kernel)
set_option maxRecDepth 20000 in
theorem gX6_letCarpsGrow_X1_isTooFull : GoodIn wsX6_letCarpsGrow (wsV RX6 298 RX1 yX1_isTooFull wsX1_isTooFull) := goodIn_app (goodIn_of _ (by decide +kernel)) ggX6_letCarpsGrow_X1_isTooFull
set_option maxRecDepth 20000 in
theorem ggX6_letCarpsGrow_X0_carpSize : GoodIn wsX6_letCarpsGrow wsX0_carpSize := goodIn_r _ [47, 48, 79, 80, 81, 82] (by decide +kernel) (by decide +kernel)
set_option maxRecDepth 20000 in
theorem gX6_letCarpsGrow_X0_carpSize : GoodIn wsX6_letCarpsGrow (wsV RX6 157 RX0 yX0_carpSize wsX0_carpSize) := goodIn_app (goodIn_of _ (by decide +kernel)) ggX6_letCarpsGrow_X0_carpSize
set_option maxRecDepth 20000 in
theorem ggX6_letCarpsGrow_X0_setCarpSize : GoodIn wsX6_letCarpsGrow wsX0_setCarpSize := goodIn_r _ [52, 48, 53, 54, 55, 56, 57, 58, 59, 79, 80, 81, 82] (by decide +kernel) (by decide +kernel)
set_option maxRecDepth 20000 in
theorem gX6_letCarpsGrow_X0_setCarpSize : GoodIn wsX6_letCarpsGrow (wsV RX6 137 RX0 yX0_setCarpSize wsX0_setCarpSize) := goodIn_app (goodIn_of _ (by decide +kernel)) ggX6_letCarpsGrow_X0_setCarpSize
theorem dX6_letCarpsGrow_0 : decode cX6_letCarpsGrow 0 = .ok (.iconst 0, 1) := by decide +kernel
theorem dX6_letCarpsGrow_1 : decode cX6_letCarpsGrow 1 = .ok (.istore_n 2, 1) := by decide +kernel
theorem dX6_letCarpsGrow_2 : decode cX6_letCarpsGrow 2 = .ok (.iload_n 2, 1) := by decide +kernel
theorem dX6_letCarpsGrow_3 : decode cX6_letCarpsGrow 3 = .ok (.aload_n 0, 1) := by decide +kernel
theorem dX6_letCarpsGrow_4 : decode cX6_letCarpsGrow 4 = .ok (.getfield 19, 3) := by decide +kernel
theorem dX6_letCarpsGrow_7 : decode cX6_letCarpsGrow 7 = .ok (.getfield 129, 3) := by decide +kernel
theorem dX6_letCarpsGrow_10 : decode cX6_letCarpsGrow 10 = .ok (.if_icmp .ge 56, 3) := by decide +kernel
theorem dX6_letCarpsGrow_13 : decode cX6_letCarpsGrow 13 = .ok (.aload_n 0, 1) := by decide +kernel
theorem dX6_letCarpsGrow_14 : decode cX6_letCarpsGrow 14 = .ok (.getfield 19, 3) := by decide +kernel
theorem dX6_letCarpsGrow_17 : decode cX6_letCarpsGrow 17 = .ok (.iload_n 2, 1) := by decide +kernel
theorem dX6_letCarpsGrow_18 : decode cX6_letCarpsGrow 18 = .ok (.invokevirtual 146, 3) := by decide +kernel
theorem dX6_letCarpsGrow_21 : decode cX6_letCarpsGrow 21 = .ok (.ifCond .eq 39, 3) := by decide +kernel
theorem dX6_letCarpsGrow_24 : decode cX6_letCarpsGrow 24 = .ok (.aload_n 0, 1) := by decide +kernel
theorem dX6_letCarpsGrow_25 : decode cX6_letCarpsGrow 25 = .ok (.getfield 10, 3) := by decide +kernel
theorem dX6_letCarpsGrow_28 : decode cX6_letCarpsGrow 28 = .ok (.aload_n 0, 1) := by decide +kernel
theorem dX6_letCarpsGrow_29 : decode cX6_letCarpsGrow 29 = .ok (.getfield 19, 3) := by decide +kernel
theorem dX6_letCarpsGrow_32 : decode cX6_letCarpsGrow 32 = .ok (.iload_n 2, 1) := by decide +kernel
theorem dX6_letCarpsGrow_33 : decode cX6_letCarpsGrow 33 = .ok (.invokevirtual 154, 3) := by decide +kernel
theorem dX6_letCarpsGrow_36 : decode cX6_letCarpsGrow 36 = .ok (.invokevirtual 298, 3) := by decide +kernel
theorem dX6_letCarpsGrow_39 : decode cX6_letCarpsGrow 39 = .ok (.ifCond .eq 7, 3) := by decide +kernel
theorem dX6_letCarpsGrow_42 : decode cX6_letCarpsGrow 42 = .ok (.iconst (-1), 1) := by decide +kernel
theorem dX6_letCarpsGrow_43 : decode cX6_letCarpsGrow 43 = .ok (.goto 4, 3) := by decide +kernel
theorem dX6_letCarpsGrow_46 : decode cX6_letCarpsGrow 46 = .ok (.iconst 1, 1) := by decide +kernel
theorem dX6_letCarpsGrow_47 : decode cX6_letCarpsGrow 47 = .ok (.istore_n 3, 1) := by decide +kernel
theorem dX6_letCarpsGrow_48 : decode cX6_letCarpsGrow 48 = .ok (.aload_n 1, 1) := by decide +kernel
theorem dX6_letCarpsGrow_49 : decode cX6_letCarpsGrow 49 = .ok (.iload_n 2, 1) := by decide +kernel
theorem dX6_letCarpsGrow_50 : decode cX6_letCarpsGrow 50 = .ok (.aload_n 1, 1) := by decide +kernel
theorem dX6_letCarpsGrow_51 : decode cX6_letCarpsGrow 51 = .ok (.iload_n 2, 1) := by decide +kernel
theorem dX6_letCarpsGrow_52 : decode cX6_letCarpsGrow 52 = .ok (.invokevirtual 157, 3) := by decide +kernel
theorem dX6_letCarpsGrow_55 : decode cX6_letCarpsGrow 55 = .ok (.iload_n 3, 1) := by decide +kernel
theorem dX6_letCarpsGrow_56 : decode cX6_letCarpsGrow 56 = .ok (.iadd, 1) := by decide +kernel
theorem dX6_letCarpsGrow_57 : decode cX6_letCarpsGrow 57 = .ok (.invokevirtual 137, 3) := by decide +kernel
theorem dX6_letCarpsGrow_60 : decode cX6_letCarpsGrow 60 = .ok (.iinc 2 1, 3) := by decide +kernel
theorem dX6_letCarpsGrow_63 : decode cX6_letCarpsGrow 63 = .ok (.goto (-61), 3) := by decide +kernel
theorem dX6_letCarpsGrow_66 : decode cX6_letCarpsGrow 66 = .ok (.return_, 1) := by decide +kernel
set_option maxRecDepth 20000 in
theorem ggX6_letPoetsWrite_X0_isFullMoon : GoodIn wsX6_letPoetsWrite wsX0_isFullMoon := goodIn_r _ [7, 8, 140, 141, 142, 143] (by decide +kernel) (by decide +kernel)
set_option maxRecDepth 20000 in
theorem gX6_letPoetsWrite_X0_isFullMoon : GoodIn wsX6_letPoetsWrite (wsV RX6 219 RX0 yX0_isFullMoon wsX0_isFullMoon) := goodIn_app (goodIn_of _ (by decide +kernel)) ggX6_letPoetsWrite_X0_isFullMoon
set_option maxRecDepth 20000 in
theorem ggX6_letPoetsWrite_X3_gateOf : GoodIn wsX6_letPoetsWrite wsX3_gateOf := goodIn_r _ [13, 14, 15, 16, 17, 12, 18, 19, 138, 139] (by decide +kernel) (by decide +kernel)
set_option maxRecDepth 20000 in
theorem gX6_letPoetsWrite_X3_gateOf : GoodIn wsX6_letPoetsWrite (wsV RX6 207 RX3 yX3_gateOf wsX3_gateOf) := goodIn_app (goodIn_of _ (by decide +kernel)) ggX6_letPoetsWrite_X3_gateOf
set_option maxRecDepth 20000 in
theorem ggX6_letPoetsWrite_X6_look : GoodIn wsX6_letPoetsWrite wsX6_look := goodIn_r _ [24, 25, 26, 27, 28, 29, 30, 31, 32, 33, 34, 35, 36, 37, 38, 39, 40, 41, 42, 43, 44, 45, 46, 47, 48, 49, 50, 51, 52, 53, 54, 55, 56, 57, 58, 59, 60, 61, 62, 63, 64, 65, 66, 67, 68, 69, 70, 71, 72, 73, 74, 75, 76, 77, 78, 79, 80, 81, 82, 83, 84, 85, 23, 86, 87, 88, 89, 90, 91, 92, 93, 94, 95, 96, 97, 98, 99, 100, 101, 102, 103, 104, 105, 106, 107, 108, 109, 110, 111, 112, 113, 114, 6, 115, 116, 117, 118, 119, 120, 121, 122, 123, 124, 125, 131, 132, 133, 134, 135, 136, 137, 144, 145, 146, 147, 148, 149, 150, 151, 152, 153, 154, 155, 156, 157, 158, 159, 160, 161, 162, 163, 140, 141, 142, 143] (by decide +kernel) (by decide +kernel)
set_option maxRecDepth 20000 in
theorem gX6_letPoetsWrite_X6_look : GoodIn wsX6_letPoetsWrite (wsV RX6 181 RX6 yX6_look wsX6_look) := goodIn_app (goodIn_of _ (by decide +kernel)) ggX6_letPoetsWrite_X6_look
set_option maxRecDepth 20000 in
theorem ggX6_letPoetsWrite_X0_addWritten : GoodIn wsX6_letPoetsWrite wsX0_addWritten := goodIn_r _ [129, 130, 140, 141, 142, 143] (by decide +kernel) (by decide +kernel)
set_option maxRecDepth 20000 in
theorem gX6_letPoetsWrite_X0_addWritten : GoodIn wsX6_letPoetsWrite (wsV RX6 301 RX0 yX0_addWritten wsX0_addWritten) := goodIn_app (goodIn_of _ (by decide +kernel)) ggX6_letPoetsWrite_X0_addWritten
theorem dX6_letPoetsWrite_0 : decode cX6_letPoetsWrite 0 = .ok (.iconst 0, 1) := by decide +kernel
theorem dX6_letPoetsWrite_1 : decode cX6_letPoetsWrite 1 = .ok (.istore_n 2, 1) := by decide +kernel
theorem dX6_letPoetsWrite_2 : decode cX6_letPoetsWrite 2 = .ok (.aload_n 1, 1) := by decide +kernel
theorem dX6_letPoetsWrite_3 : decode cX6_letPoetsWrite 3 = .ok (.invokevirtual 219, 3) := by decide +kernel
theorem dX6_letPoetsWrite_6 : decode cX6_letPoetsWrite 6 = .ok (.ifCond .eq 7, 3) := by decide +kernel
theorem dX6_letPoetsWrite_9 : decode cX6_letPoetsWrite 9 = .ok (.iconst 2, 1) := by decide +kernel
theorem dX6_letPoetsWrite_10 : decode cX6_letPoetsWrite 10 = .ok (.goto 4, 3) := by decide +kernel
theorem dX6_letPoetsWrite_13 : decode cX6_letPoetsWrite 13 = .ok (.iconst 1, 1) := by decide +kernel
theorem dX6_letPoetsWrite_14 : decode cX6_letPoetsWrite 14 = .ok (.istore_n 3, 1) := by decide +kernel
theorem dX6_letPoetsWrite_15 : decode cX6_letPoetsWrite 15 = .ok (.iconst 0, 1) := by decide +kernel
theorem dX6_letPoetsWrite_16 : decode cX6_letPoetsWrite 16 = .ok (.istore 4, 2) := by decide +kernel
theorem dX6_letPoetsWrite_18 : decode cX6_letPoetsWrite 18 = .ok (.iload 4, 2) := by decide +kernel
theorem dX6_letPoetsWrite_20 : decode cX6_letPoetsWrite 20 = .ok (.aload_n 0, 1) := by decide +kernel
theorem dX6_letPoetsWrite_21 : decode cX6_letPoetsWrite 21 = .ok (.getfield 33, 3) := by decide +kernel
theorem dX6_letPoetsWrite_24 : decode cX6_letPoetsWrite 24 = .ok (.getfield 200, 3) := by decide +kernel
theorem dX6_letPoetsWrite_27 : decode cX6_letPoetsWrite 27 = .ok (.if_icmp .ge 42, 3) := by decide +kernel
theorem dX6_letPoetsWrite_30 : decode cX6_letPoetsWrite 30 = .ok (.iload_n 3, 1) := by decide +kernel
theorem dX6_letPoetsWrite_31 : decode cX6_letPoetsWrite 31 = .ok (.aload_n 0, 1) := by decide +kernel
theorem dX6_letPoetsWrite_32 : decode cX6_letPoetsWrite 32 = .ok (.aload_n 0, 1) := by decide +kernel
theorem dX6_letPoetsWrite_33 : decode cX6_letPoetsWrite 33 = .ok (.getfield 33, 3) := by decide +kernel
theorem dX6_letPoetsWrite_36 : decode cX6_letPoetsWrite 36 = .ok (.iload 4, 2) := by decide +kernel
theorem dX6_letPoetsWrite_38 : decode cX6_letPoetsWrite 38 = .ok (.invokevirtual 207, 3) := by decide +kernel
theorem dX6_letPoetsWrite_41 : decode cX6_letPoetsWrite 41 = .ok (.aload_n 1, 1) := by decide +kernel
theorem dX6_letPoetsWrite_42 : decode cX6_letPoetsWrite 42 = .ok (.invokevirtual 181, 3) := by decide +kernel
theorem dX6_letPoetsWrite_45 : decode cX6_letPoetsWrite 45 = .ok (.iconst 5, 1) := by decide +kernel
theorem dX6_letPoetsWrite_46 : decode cX6_letPoetsWrite 46 = .ok (.idiv, 1) := by decide +kernel
theorem dX6_letPoetsWrite_47 : decode cX6_letPoetsWrite 47 = .ok (.imul, 1) := by decide +kernel
theorem dX6_letPoetsWrite_48 : decode cX6_letPoetsWrite 48 = .ok (.istore 5, 2) := by decide +kernel
theorem dX6_letPoetsWrite_50 : decode cX6_letPoetsWrite 50 = .ok (.aload_n 1, 1) := by decide +kernel
theorem dX6_letPoetsWrite_51 : decode cX6_letPoetsWrite 51 = .ok (.iload 4, 2) := by decide +kernel
theorem dX6_letPoetsWrite_53 : decode cX6_letPoetsWrite 53 = .ok (.iload 5, 2) := by decide +kernel
theorem dX6_letPoetsWrite_55 : decode cX6_letPoetsWrite 55 = .ok (.invokevirtual 301, 3) := by decide +kernel
theorem dX6_letPoetsWrite_58 : decode cX6_letPoetsWrite 58 = .ok (.iload_n 2, 1) := by decide +kernel
theorem dX6_letPoetsWrite_59 : decode cX6_letPoetsWrite 59 = .ok (.iload 5, 2) := by decide +kernel
theorem dX6_letPoetsWrite_61 : decode cX6_letPoetsWrite 61 = .ok (.iadd, 1) := by decide +kernel
theorem dX6_letPoetsWrite_62 : decode cX6_letPoetsWrite 62 = .ok (.istore_n 2, 1) := by decide +kernel
theorem dX6_letPoetsWrite_63 : decode cX6_letPoetsWrite 63 = .ok (.iinc 4 1, 3) := by decide +kernel
theorem dX6_letPoetsWrite_66 : decode cX6_letPoetsWrite 66 = .ok (.goto (-48), 3) := by decide +kernel
theorem dX6_letPoetsWrite_69 : decode cX6_letPoetsWrite 69 = .ok (.iload_n 2, 1) := by decide +kernel
theorem dX6_letPoetsWrite_70 : decode cX6_letPoetsWrite 70 = .ok (.ireturn, 1) := by decide +kernel
set_option maxRecDepth 20000 in
theorem ggX6_beautyWithRock_X1_setRock : GoodIn wsX6_beautyWithRock wsX1_setRock := goodIn_r _ [7, 8, 9, 10, 6, 11, 12, 13, 14, 15, 16, 17, 128, 129, 130, 131, 132, 133, 134, 135, 136] (by decide +kernel) (by decide +kernel)
set_option maxRecDepth 20000 in
theorem gX6_beautyWithRock_X1_setRock : GoodIn wsX6_beautyWithRock (wsV RX6 72 RX1 yX1_setRock wsX1_setRock) := goodIn_app (goodIn_of _ (by decide +kernel)) ggX6_beautyWithRock_X1_setRock
set_option maxRecDepth 20000 in
theorem ggX6_beautyWithRock_X6_look : GoodIn wsX6_beautyWithRock wsX6_look := goodIn_r _ [22, 23, 24, 1, 25, 26, 27, 28, 29, 30, 31, 32, 33, 34, 35, 36, 37, 38, 39, 40, 41, 42, 43, 44, 45, 46, 47, 48, 49, 50, 51, 52, 53, 54, 6, 55, 56, 57, 15, 16, 17, 58, 59, 60, 61, 62, 63, 64, 65, 66, 67, 68, 69, 70, 71, 72, 73, 74, 12, 75, 76, 77, 21, 78, 79, 80, 81, 82, 83, 84, 85, 13, 86, 87, 88, 89, 14, 90, 91, 92, 93, 94, 95, 96, 97, 98, 99, 100, 101, 102, 103, 104, 105, 106, 107, 108, 109, 110, 111, 112, 113, 114, 115, 116, 121, 122, 123, 124, 125, 126, 127, 137, 138, 139, 140, 141, 142, 143, 144, 128, 129, 130, 131, 132, 133, 134, 135, 136, 145, 146, 147, 148, 149, 150, 151] (by decide +kernel) (by decide +kernel)
set_option maxRecDepth 20000 in
theorem gX6_beautyWithRock_X6_look : GoodIn wsX6_beautyWithRock (wsV RX6 181 RX6 yX6_look wsX6_look) := goodIn_app (goodIn_of _ (by decide +kernel)) ggX6_beautyWithRock_X6_look
set_option maxRecDepth 20000 in
theorem ggX6_beautyWithRock_X1_takeRock : GoodIn wsX6_beautyWithRock wsX1_takeRock := goodIn_r _ [120, 8, 9, 10, 6, 11, 12, 13, 14, 15, 16, 17, 128, 129, 130, 131, 132, 133, 134, 135, 136] (by decide +kernel) (by decide +kernel)
set_option maxRecDepth 20000 in
theorem gX6_beautyWithRock_X1_takeRock : GoodIn wsX6_beautyWithRock (wsV RX6 304 RX1 yX1_takeRock wsX1_takeRock) := goodIn_app (goodIn_of _ (by decide +kernel)) ggX6_beautyWithRock_X1_takeRock
theorem dX6_beautyWithRock_0 : decode cX6_beautyWithRock 0 = .ok (.aload_n 0, 1) := by decide +kernel
theorem dX6_beautyWithRock_1 : decode cX6_beautyWithRock 1 = .ok (.getfield 10, 3) := by decide +kernel
theorem dX6_beautyWithRock_4 : decode cX6_beautyWithRock 4 = .ok (.iload_n 2, 1) := by decide +kernel
theorem dX6_beautyWithRock_5 : decode cX6_beautyWithRock 5 = .ok (.iload_n 3, 1) := by decide +kernel
theorem dX6_beautyWithRock_6 : decode cX6_beautyWithRock 6 = .ok (.iload 4, 2) := by decide +kernel
theorem dX6_beautyWithRock_8 : decode cX6_beautyWithRock 8 = .ok (.invokevirtual 72, 3) := by decide +kernel
theorem dX6_beautyWithRock_11 : decode cX6_beautyWithRock 11 = .ok (.aload_n 0, 1) := by decide +kernel
theorem dX6_beautyWithRock_12 : decode cX6_beautyWithRock 12 = .ok (.iload_n 1, 1) := by decide +kernel
theorem dX6_beautyWithRock_13 : decode cX6_beautyWithRock 13 = .ok (.aload_n 0, 1) := by decide +kernel
theorem dX6_beautyWithRock_14 : decode cX6_beautyWithRock 14 = .ok (.getfield 40, 3) := by decide +kernel
theorem dX6_beautyWithRock_17 : decode cX6_beautyWithRock 17 = .ok (.invokevirtual 181, 3) := by decide +kernel
theorem dX6_beautyWithRock_20 : decode cX6_beautyWithRock 20 = .ok (.istore 5, 2) := by decide +kernel
theorem dX6_beautyWithRock_22 : decode cX6_beautyWithRock 22 = .ok (.aload_n 0, 1) := by decide +kernel
theorem dX6_beautyWithRock_23 : decode cX6_beautyWithRock 23 = .ok (.getfield 10, 3) := by decide +kernel
theorem dX6_beautyWithRock_26 : decode cX6_beautyWithRock 26 = .ok (.iload_n 2, 1) := by decide +kernel
theorem dX6_beautyWithRock_27 : decode cX6_beautyWithRock 27 = .ok (.invokevirtual 304, 3) := by decide +kernel
theorem dX6_beautyWithRock_30 : decode cX6_beautyWithRock 30 = .ok (.iload 5, 2) := by decide +kernel
theorem dX6_beautyWithRock_32 : decode cX6_beautyWithRock 32 = .ok (.ireturn, 1) := by decide +kernel
set_option maxRecDepth 20000 in
theorem ggX6_look_X5_begin : GoodIn wsX6_look wsX5_begin := goodIn_r _ [9, 10, 11, 12, 13, 14, 111, 112, 113, 114, 115] (by decide +kernel) (by decide +kernel)
set_option maxRecDepth 20000 in
theorem gX6_look_X5_begin : GoodIn wsX6_look (wsV RX6 307 RX5 yX5_begin wsX5_begin) := goodIn_app (goodIn_of _ (by decide +kernel)) ggX6_look_X5_begin
set_option maxRecDepth 20000 in
theorem ggX6_look_X2_directionOf : GoodIn wsX6_look wsX2_directionOf := goodIn_r _ [19, 20, 21, 22, 23, 18, 24, 25, 116, 117, 118] (by decide +kernel) (by decide +kernel)
set_option maxRecDepth 20000 in
theorem gX6_look_X2_directionOf : GoodIn wsX6_look (wsV RX6 310 RX2 yX2_directionOf wsX2_directionOf) := goodIn_app (goodIn_of _ (by decide +kernel)) ggX6_look_X2_directionOf
set_option maxRecDepth 20000 in
theorem ggX6_look_X2_placeOf : GoodIn wsX6_look wsX2_placeOf := goodIn_r _ [29, 30, 21, 22, 23, 18, 24, 25, 116, 117, 118] (by decide +kernel) (by decide +kernel)
set_option maxRecDepth 20000 in
theorem gX6_look_X2_placeOf : GoodIn wsX6_look (wsV RX6 313 RX2 yX2_placeOf wsX2_placeOf) := goodIn_app (goodIn_of _ (by decide +kernel)) ggX6_look_X2_placeOf
set_option maxRecDepth 20000 in
theorem ggX6_look_X1_beside : GoodIn wsX6_look wsX1_beside := goodIn_r _ [35, 36, 37, 38, 39, 34, 40, 41, 42, 43, 44, 45, 46, 47, 48, 49] (by decide +kernel) (by decide +kernel)
set_option maxRecDepth 20000 in
theorem gX6_look_X1_beside : GoodIn wsX6_look (wsV RX6 314 RX1 yX1_beside wsX1_beside) := goodIn_app (goodIn_of _ (by decide +kernel)) ggX6_look_X1_beside
set_option maxRecDepth 20000 in
theorem ggX6_look_X1_isWall : GoodIn wsX6_look wsX1_isWall := goodIn_r _ [53, 54, 55, 56, 34, 57, 58, 38, 39, 40, 119, 120, 121, 122, 123, 124, 125, 126, 127] (by decide +kernel) (by decide +kernel)
set_option maxRecDepth 20000 in
theorem gX6_look_X1_isWall : GoodIn wsX6_look (wsV RX6 317 RX1 yX1_isWall wsX1_isWall) := goodIn_app (goodIn_of _ (by decide +kernel)) ggX6_look_X1_isWall
set_option maxRecDepth 20000 in
theorem ggX6_look_X6_show : GoodIn wsX6_look wsX6_show := goodIn_r _ [63, 1, 64, 3, 65, 66, 55, 56, 34, 57, 58, 38, 39, 40, 67, 68, 69, 70, 71, 72, 73, 74, 75, 76, 77, 78, 79, 8, 80, 11, 13, 14, 81, 82, 83, 84, 85, 86, 87, 88, 89, 90, 91, 92, 93, 94, 95, 96, 97, 98, 12, 104, 105, 106, 107, 108, 109, 110, 111, 112, 113, 114, 115, 119, 120, 121, 122, 123, 124, 125, 126, 127, 128, 129, 130, 131, 132, 133, 134] (by decide +kernel) (by decide +kernel)
set_option maxRecDepth 20000 in
theorem gX6_look_X6_show : GoodIn wsX6_look (wsV RX6 320 RX6 yX6_show wsX6_show) := goodIn_app (goodIn_of _ (by decide +kernel)) ggX6_look_X6_show
set_option maxRecDepth 20000 in
theorem ggX6_look_X1_isGreatRock : GoodIn wsX6_look wsX1_isGreatRock := goodIn_r _ [102, 54, 55, 56, 34, 57, 58, 38, 39, 40, 103, 73, 74, 75, 76, 119, 120, 121, 122, 123, 124, 125, 126, 127] (by decide +kernel) (by decide +kernel)
set_option maxRecDepth 20000 in
theorem gX6_look_X1_isGreatRock : GoodIn wsX6_look (wsV RX6 324 RX1 yX1_isGreatRock wsX1_isGreatRock) := goodIn_app (goodIn_of _ (by decide +kernel)) ggX6_look_X1_isGreatRock
theorem dX6_look_0 : decode cX6_look 0 = .ok (.aload_n 0, 1) := by decide +kernel
theorem dX6_look_1 : decode cX6_look 1 = .ok (.getfield 50, 3) := by decide +kernel
theorem dX6_look_4 : decode cX6_look 4 = .ok (.invokevirtual 307, 3) := by decide +kernel
theorem dX6_look_7 : decode cX6_look 7 = .ok (.aload_n 0, 1) := by decide +kernel
theorem dX6_look_8 : decode cX6_look 8 = .ok (.getfield 26, 3) := by decide +kernel
theorem dX6_look_11 : decode cX6_look 11 = .ok (.iload_n 1, 1) := by decide +kernel
theorem dX6_look_12 : decode cX6_look 12 = .ok (.invokevirtual 310, 3) := by decide +kernel
theorem dX6_look_15 : decode cX6_look 15 = .ok (.istore_n 3, 1) := by decide +kernel
theorem dX6_look_16 : decode cX6_look 16 = .ok (.aload_n 0, 1) := by decide +kernel
theorem dX6_look_17 : decode cX6_look 17 = .ok (.getfield 10, 3) := by decide +kernel
theorem dX6_look_20 : decode cX6_look 20 = .ok (.aload_n 0, 1) := by decide +kernel
theorem dX6_look_21 : decode cX6_look 21 = .ok (.getfield 26, 3) := by decide +kernel
theorem dX6_look_24 : decode cX6_look 24 = .ok (.iload_n 1, 1) := by decide +kernel
theorem dX6_look_25 : decode cX6_look 25 = .ok (.invokevirtual 313, 3) := by decide +kernel
theorem dX6_look_28 : decode cX6_look 28 = .ok (.iload_n 3, 1) := by decide +kernel
theorem dX6_look_29 : decode cX6_look 29 = .ok (.invokevirtual 314, 3) := by decide +kernel
theorem dX6_look_32 : decode cX6_look 32 = .ok (.istore 4, 2) := by decide +kernel
theorem dX6_look_34 : decode cX6_look 34 = .ok (.iconst 0, 1) := by decide +kernel
theorem dX6_look_35 : decode cX6_look 35 = .ok (.istore 5, 2) := by decide +kernel
theorem dX6_look_37 : decode cX6_look 37 = .ok (.iload 5, 2) := by decide +kernel
theorem dX6_look_39 : decode cX6_look 39 = .ok (.bipush 10, 2) := by decide +kernel
theorem dX6_look_41 : decode cX6_look 41 = .ok (.if_icmp .ge 62, 3) := by decide +kernel
theorem dX6_look_44 : decode cX6_look 44 = .ok (.iload 4, 2) := by decide +kernel
theorem dX6_look_46 : decode cX6_look 46 = .ok (.iconst (-1), 1) := by decide +kernel
theorem dX6_look_47 : decode cX6_look 47 = .ok (.if_icmp .eq 56, 3) := by decide +kernel
theorem dX6_look_50 : decode cX6_look 50 = .ok (.aload_n 0, 1) := by decide +kernel
theorem dX6_look_51 : decode cX6_look 51 = .ok (.getfield 10, 3) := by decide +kernel
theorem dX6_look_54 : decode cX6_look 54 = .ok (.iload 4, 2) := by decide +kernel
theorem dX6_look_56 : decode cX6_look 56 = .ok (.invokevirtual 317, 3) := by decide +kernel
theorem dX6_look_59 : decode cX6_look 59 = .ok (.ifCond .ne 44, 3) := by decide +kernel
theorem dX6_look_62 : decode cX6_look 62 = .ok (.aload_n 0, 1) := by decide +kernel
theorem dX6_look_63 : decode cX6_look 63 = .ok (.iload 4, 2) := by decide +kernel
theorem dX6_look_65 : decode cX6_look 65 = .ok (.aload_n 2, 1) := by decide +kernel
theorem dX6_look_66 : decode cX6_look 66 = .ok (.invokevirtual 320, 3) := by decide +kernel
theorem dX6_look_69 : decode cX6_look 69 = .ok (.aload_n 0, 1) := by decide +kernel
theorem dX6_look_70 : decode cX6_look 70 = .ok (.getfield 10, 3) := by decide +kernel
theorem dX6_look_73 : decode cX6_look 73 = .ok (.iload 4, 2) := by decide +kernel
theorem dX6_look_75 : decode cX6_look 75 = .ok (.invokevirtual 324, 3) := by decide +kernel
theorem dX6_look_78 : decode cX6_look 78 = .ok (.ifCond .eq 7, 3) := by decide +kernel
theorem dX6_look_81 : decode cX6_look 81 = .ok (.iconst (-1), 1) := by decide +kernel
theorem dX6_look_82 : decode cX6_look 82 = .ok (.goto 13, 3) := by decide +kernel
theorem dX6_look_85 : decode cX6_look 85 = .ok (.aload_n 0, 1) := by decide +kernel
theorem dX6_look_86 : decode cX6_look 86 = .ok (.getfield 10, 3) := by decide +kernel
theorem dX6_look_89 : decode cX6_look 89 = .ok (.iload 4, 2) := by decide +kernel
theorem dX6_look_91 : decode cX6_look 91 = .ok (.iload_n 3, 1) := by decide +kernel
theorem dX6_look_92 : decode cX6_look 92 = .ok (.invokevirtual 314, 3) := by decide +kernel
theorem dX6_look_95 : decode cX6_look 95 = .ok (.istore 4, 2) := by decide +kernel
theorem dX6_look_97 : decode cX6_look 97 = .ok (.iinc 5 1, 3) := by decide +kernel
theorem dX6_look_100 : decode cX6_look 100 = .ok (.goto (-63), 3) := by decide +kernel
theorem dX6_look_103 : decode cX6_look 103 = .ok (.aload_n 0, 1) := by decide +kernel
theorem dX6_look_104 : decode cX6_look 104 = .ok (.getfield 50, 3) := by decide +kernel
theorem dX6_look_107 : decode cX6_look 107 = .ok (.getfield 194, 3) := by decide +kernel
theorem dX6_look_110 : decode cX6_look 110 = .ok (.ireturn, 1) := by decide +kernel
set_option maxRecDepth 20000 in
theorem ggX6_show_X1_kindAt : GoodIn wsX6_show wsX1_kindAt := goodIn_r _ [9, 10, 11, 12, 8, 13, 63, 64, 65, 66, 67, 68, 69, 70, 71] (by decide +kernel) (by decide +kernel)
set_option maxRecDepth 20000 in
theorem gX6_show_X1_kindAt : GoodIn wsX6_show (wsV RX6 115 RX1 yX1_kindAt wsX1_kindAt) := goodIn_app (goodIn_of _ (by decide +kernel)) ggX6_show_X1_kindAt
set_option maxRecDepth 20000 in
theorem ggX6_show_X1_shapeAt : GoodIn wsX6_show wsX1_shapeAt := goodIn_r _ [17, 18, 11, 12, 8, 13, 63, 64, 65, 66, 67, 68, 69, 70, 71] (by decide +kernel) (by decide +kernel)
set_option maxRecDepth 20000 in
theorem gX6_show_X1_shapeAt : GoodIn wsX6_show (wsV RX6 118 RX1 yX1_shapeAt wsX1_shapeAt) := goodIn_app (goodIn_of _ (by decide +kernel)) ggX6_show_X1_shapeAt
set_option maxRecDepth 20000 in
theorem ggX6_show_X1_sizeAt : GoodIn wsX6_show wsX1_sizeAt := goodIn_r _ [22, 23, 11, 12, 8, 13, 63, 64, 65, 66, 67, 68, 69, 70, 71] (by decide +kernel) (by decide +kernel)
set_option maxRecDepth 20000 in
theorem gX6_show_X1_sizeAt : GoodIn wsX6_show (wsV RX6 106 RX1 yX1_sizeAt wsX1_sizeAt) := goodIn_app (goodIn_of _ (by decide +kernel)) ggX6_show_X1_sizeAt
set_option maxRecDepth 20000 in
theorem ggX6_show_X5_addRock : GoodIn wsX6_show wsX5_addRock := goodIn_r _ [28, 29, 30, 31, 58, 59, 60, 61, 62] (by decide +kernel) (by decide +kernel)
set_option maxRecDepth 20000 in
theorem gX6_show_X5_addRock : GoodIn wsX6_show (wsV RX6 327 RX5 yX5_addRock wsX5_addRock) := goodIn_app (goodIn_of _ (by decide +kernel)) ggX6_show_X5_addRock
set_option maxRecDepth 20000 in
theorem ggX6_show_X4_sizesIn : GoodIn wsX6_show wsX4_sizesIn := goodIn_r _ [36, 37, 38, 39, 40, 41, 42, 43, 44, 45, 72, 73, 74, 75, 76, 77, 78] (by decide +kernel) (by decide +kernel)
set_option maxRecDepth 20000 in
theorem gX6_show_X4_sizesIn : GoodIn wsX6_show (wsV RX6 330 RX4 yX4_sizesIn wsX4_sizesIn) := goodIn_app (goodIn_of _ (by decide +kernel)) ggX6_show_X4_sizesIn
set_option maxRecDepth 20000 in
theorem ggX6_show_X5_addPondCell : GoodIn wsX6_show wsX5_addPondCell := goodIn_r _ [49, 50, 30, 58, 59, 60, 61, 62] (by decide +kernel) (by decide +kernel)
set_option maxRecDepth 20000 in
theorem gX6_show_X5_addPondCell : GoodIn wsX6_show (wsV RX6 333 RX5 yX5_addPondCell wsX5_addPondCell) := goodIn_app (goodIn_of _ (by decide +kernel)) ggX6_show_X5_addPondCell
theorem dX6_show_0 : decode cX6_show 0 = .ok (.aload_n 0, 1) := by decide +kernel
theorem dX6_show_1 : decode cX6_show 1 = .ok (.getfield 50, 3) := by decide +kernel
theorem dX6_show_4 : decode cX6_show 4 = .ok (.dup, 1) := by decide +kernel
theorem dX6_show_5 : decode cX6_show 5 = .ok (.getfield 185, 3) := by decide +kernel
theorem dX6_show_8 : decode cX6_show 8 = .ok (.iconst 1, 1) := by decide +kernel
theorem dX6_show_9 : decode cX6_show 9 = .ok (.iadd, 1) := by decide +kernel
theorem dX6_show_10 : decode cX6_show 10 = .ok (.putfield 185, 3) := by decide +kernel
theorem dX6_show_13 : decode cX6_show 13 = .ok (.aload_n 0, 1) := by decide +kernel
theorem dX6_show_14 : decode cX6_show 14 = .ok (.getfield 10, 3) := by decide +kernel
theorem dX6_show_17 : decode cX6_show 17 = .ok (.iload_n 1, 1) := by decide +kernel
theorem dX6_show_18 : decode cX6_show 18 = .ok (.invokevirtual 115, 3) := by decide +kernel
theorem dX6_show_21 : decode cX6_show 21 = .ok (.istore_n 3, 1) := by decide +kernel
theorem dX6_show_22 : decode cX6_show 22 = .ok (.iload_n 3, 1) := by decide +kernel
theorem dX6_show_23 : decode cX6_show 23 = .ok (.iconst 1, 1) := by decide +kernel
theorem dX6_show_24 : decode cX6_show 24 = .ok (.if_icmp .ne 29, 3) := by decide +kernel
theorem dX6_show_27 : decode cX6_show 27 = .ok (.aload_n 0, 1) := by decide +kernel
theorem dX6_show_28 : decode cX6_show 28 = .ok (.getfield 50, 3) := by decide +kernel
theorem dX6_show_31 : decode cX6_show 31 = .ok (.aload_n 0, 1) := by decide +kernel
theorem dX6_show_32 : decode cX6_show 32 = .ok (.getfield 10, 3) := by decide +kernel
theorem dX6_show_35 : decode cX6_show 35 = .ok (.iload_n 1, 1) := by decide +kernel
theorem dX6_show_36 : decode cX6_show 36 = .ok (.invokevirtual 118, 3) := by decide +kernel
theorem dX6_show_39 : decode cX6_show 39 = .ok (.aload_n 0, 1) := by decide +kernel
theorem dX6_show_40 : decode cX6_show 40 = .ok (.getfield 10, 3) := by decide +kernel
theorem dX6_show_43 : decode cX6_show 43 = .ok (.iload_n 1, 1) := by decide +kernel
theorem dX6_show_44 : decode cX6_show 44 = .ok (.invokevirtual 106, 3) := by decide +kernel
theorem dX6_show_47 : decode cX6_show 47 = .ok (.invokevirtual 327, 3) := by decide +kernel
theorem dX6_show_50 : decode cX6_show 50 = .ok (.goto 24, 3) := by decide +kernel
theorem dX6_show_53 : decode cX6_show 53 = .ok (.iload_n 3, 1) := by decide +kernel
theorem dX6_show_54 : decode cX6_show 54 = .ok (.iconst 2, 1) := by decide +kernel
theorem dX6_show_55 : decode cX6_show 55 = .ok (.if_icmp .ne 19, 3) := by decide +kernel
theorem dX6_show_58 : decode cX6_show 58 = .ok (.aload_n 0, 1) := by decide +kernel
theorem dX6_show_59 : decode cX6_show 59 = .ok (.getfield 50, 3) := by decide +kernel
theorem dX6_show_62 : decode cX6_show 62 = .ok (.aload_n 0, 1) := by decide +kernel
theorem dX6_show_63 : decode cX6_show 63 = .ok (.getfield 19, 3) := by decide +kernel
theorem dX6_show_66 : decode cX6_show 66 = .ok (.iload_n 1, 1) := by decide +kernel
theorem dX6_show_67 : decode cX6_show 67 = .ok (.aload_n 2, 1) := by decide +kernel
theorem dX6_show_68 : decode cX6_show 68 = .ok (.invokevirtual 330, 3) := by decide +kernel
theorem dX6_show_71 : decode cX6_show 71 = .ok (.invokevirtual 333, 3) := by decide +kernel
theorem dX6_show_74 : decode cX6_show 74 = .ok (.return_, 1) := by decide +kernel
set_option maxRecDepth 20000 in
theorem ggX6_checkPlace_X1_isInside : GoodIn wsX6_checkPlace wsX1_isInside := goodIn_r _ [6] (by decide +kernel) (by decide +kernel)
set_option maxRecDepth 20000 in
theorem gX6_checkPlace_X1_isInside : GoodIn wsX6_checkPlace (va_wsS RX6 336 yX1_isInside wsX1_isInside) := goodIn_app (goodIn_of _ (by decide +kernel)) ggX6_checkPlace_X1_isInside
theorem dX6_checkPlace_0 : decode cX6_checkPlace 0 = .ok (.iload_n 1, 1) := by decide +kernel
theorem dX6_checkPlace_1 : decode cX6_checkPlace 1 = .ok (.iload_n 2, 1) := by decide +kernel
theorem dX6_checkPlace_2 : decode cX6_checkPlace 2 = .ok (.invokestatic 336, 3) := by decide +kernel
theorem dX6_checkPlace_5 : decode cX6_checkPlace 5 = .ok (.ifCond .ne 14, 3) := by decide +kernel
theorem dX6_checkPlace_8 : decode cX6_checkPlace 8 = .ok (.new 249, 3) := by decide +kernel
theorem dX6_checkPlace_11 : decode cX6_checkPlace 11 = .ok (.dup, 1) := by decide +kernel
theorem dX6_checkPlace_12 : decode cX6_checkPlace 12 = .ok (.ldc_w 340, 3) := by decide +kernel
theorem dX6_checkPlace_15 : decode cX6_checkPlace 15 = .ok (.invokespecial 253, 3) := by decide +kernel
theorem dX6_checkPlace_18 : decode cX6_checkPlace 18 = .ok (.athrow, 1) := by decide +kernel
theorem dX6_checkPlace_19 : decode cX6_checkPlace 19 = .ok (.return_, 1) := by decide +kernel
theorem dX6_checkRock_0 : decode cX6_checkRock 0 = .ok (.iload_n 1, 1) := by decide +kernel
theorem dX6_checkRock_1 : decode cX6_checkRock 1 = .ok (.ifCond .lt 8, 3) := by decide +kernel
theorem dX6_checkRock_4 : decode cX6_checkRock 4 = .ok (.iload_n 1, 1) := by decide +kernel
theorem dX6_checkRock_5 : decode cX6_checkRock 5 = .ok (.iconst 5, 1) := by decide +kernel
theorem dX6_checkRock_6 : decode cX6_checkRock 6 = .ok (.if_icmp .le 14, 3) := by decide +kernel
theorem dX6_checkRock_9 : decode cX6_checkRock 9 = .ok (.new 166, 3) := by decide +kernel
theorem dX6_checkRock_12 : decode cX6_checkRock 12 = .ok (.dup, 1) := by decide +kernel
theorem dX6_checkRock_13 : decode cX6_checkRock 13 = .ok (.ldc_w 342, 3) := by decide +kernel
theorem dX6_checkRock_16 : decode cX6_checkRock 16 = .ok (.invokespecial 170, 3) := by decide +kernel
theorem dX6_checkRock_19 : decode cX6_checkRock 19 = .ok (.athrow, 1) := by decide +kernel
theorem dX6_checkRock_20 : decode cX6_checkRock 20 = .ok (.iload_n 2, 1) := by decide +kernel
theorem dX6_checkRock_21 : decode cX6_checkRock 21 = .ok (.iconst 1, 1) := by decide +kernel
theorem dX6_checkRock_22 : decode cX6_checkRock 22 = .ok (.if_icmp .lt 9, 3) := by decide +kernel
theorem dX6_checkRock_25 : decode cX6_checkRock 25 = .ok (.iload_n 2, 1) := by decide +kernel
theorem dX6_checkRock_26 : decode cX6_checkRock 26 = .ok (.bipush 9, 2) := by decide +kernel
theorem dX6_checkRock_28 : decode cX6_checkRock 28 = .ok (.if_icmp .le 14, 3) := by decide +kernel
theorem dX6_checkRock_31 : decode cX6_checkRock 31 = .ok (.new 166, 3) := by decide +kernel
theorem dX6_checkRock_34 : decode cX6_checkRock 34 = .ok (.dup, 1) := by decide +kernel
theorem dX6_checkRock_35 : decode cX6_checkRock 35 = .ok (.ldc_w 344, 3) := by decide +kernel
theorem dX6_checkRock_38 : decode cX6_checkRock 38 = .ok (.invokespecial 170, 3) := by decide +kernel
theorem dX6_checkRock_41 : decode cX6_checkRock 41 = .ok (.athrow, 1) := by decide +kernel
theorem dX6_checkRock_42 : decode cX6_checkRock 42 = .ok (.return_, 1) := by decide +kernel
set_option maxRecDepth 20000 in
theorem ggX6_checkBare_X1_isBare : GoodIn wsX6_checkBare wsX1_isBare := goodIn_r _ [8, 9, 10, 11, 7, 12, 13, 14, 15, 16, 24, 25, 26, 27, 28, 29, 30, 31, 32] (by decide +kernel) (by decide +kernel)
set_option maxRecDepth 20000 in
theorem gX6_checkBare_X1_isBare : GoodIn wsX6_checkBare (wsV RX6 90 RX1 yX1_isBare wsX1_isBare) := goodIn_app (goodIn_of _ (by decide +kernel)) ggX6_checkBare_X1_isBare
theorem dX6_checkBare_0 : decode cX6_checkBare 0 = .ok (.aload_n 0, 1) := by decide +kernel
theorem dX6_checkBare_1 : decode cX6_checkBare 1 = .ok (.getfield 10, 3) := by decide +kernel
theorem dX6_checkBare_4 : decode cX6_checkBare 4 = .ok (.iload_n 1, 1) := by decide +kernel
theorem dX6_checkBare_5 : decode cX6_checkBare 5 = .ok (.invokevirtual 90, 3) := by decide +kernel
theorem dX6_checkBare_8 : decode cX6_checkBare 8 = .ok (.ifCond .ne 14, 3) := by decide +kernel
theorem dX6_checkBare_11 : decode cX6_checkBare 11 = .ok (.new 94, 3) := by decide +kernel
theorem dX6_checkBare_14 : decode cX6_checkBare 14 = .ok (.dup, 1) := by decide +kernel
theorem dX6_checkBare_15 : decode cX6_checkBare 15 = .ok (.ldc_w 346, 3) := by decide +kernel
theorem dX6_checkBare_18 : decode cX6_checkBare 18 = .ok (.invokespecial 98, 3) := by decide +kernel
theorem dX6_checkBare_21 : decode cX6_checkBare 21 = .ok (.athrow, 1) := by decide +kernel
theorem dX6_checkBare_22 : decode cX6_checkBare 22 = .ok (.return_, 1) := by decide +kernel
theorem dX6_spend_0 : decode cX6_spend 0 = .ok (.aload_n 0, 1) := by decide +kernel
theorem dX6_spend_1 : decode cX6_spend 1 = .ok (.getfield 40, 3) := by decide +kernel
theorem dX6_spend_4 : decode cX6_spend 4 = .ok (.getfield 76, 3) := by decide +kernel
theorem dX6_spend_7 : decode cX6_spend 7 = .ok (.iload_n 1, 1) := by decide +kernel
theorem dX6_spend_8 : decode cX6_spend 8 = .ok (.if_icmp .ge 14, 3) := by decide +kernel
theorem dX6_spend_11 : decode cX6_spend 11 = .ok (.new 94, 3) := by decide +kernel
theorem dX6_spend_14 : decode cX6_spend 14 = .ok (.dup, 1) := by decide +kernel
theorem dX6_spend_15 : decode cX6_spend 15 = .ok (.ldc_w 348, 3) := by decide +kernel
theorem dX6_spend_18 : decode cX6_spend 18 = .ok (.invokespecial 98, 3) := by decide +kernel
theorem dX6_spend_21 : decode cX6_spend 21 = .ok (.athrow, 1) := by decide +kernel
theorem dX6_spend_22 : decode cX6_spend 22 = .ok (.aload_n 0, 1) := by decide +kernel
theorem dX6_spend_23 : decode cX6_spend 23 = .ok (.getfield 40, 3) := by decide +kernel
theorem dX6_spend_26 : decode cX6_spend 26 = .ok (.dup, 1) := by decide +kernel
theorem dX6_spend_27 : decode cX6_spend 27 = .ok (.getfield 76, 3) := by decide +kernel
theorem dX6_spend_30 : decode cX6_spend 30 = .ok (.iload_n 1, 1) := by decide +kernel
theorem dX6_spend_31 : decode cX6_spend 31 = .ok (.isub, 1) := by decide +kernel
theorem dX6_spend_32 : decode cX6_spend 32 = .ok (.putfield 76, 3) := by decide +kernel
theorem dX6_spend_35 : decode cX6_spend 35 = .ok (.return_, 1) := by decide +kernel
theorem dX6_checkWhat_0 : decode cX6_checkWhat 0 = .ok (.iload_n 1, 1) := by decide +kernel
theorem dX6_checkWhat_1 : decode cX6_checkWhat 1 = .ok (.ifCond .lt 8, 3) := by decide +kernel
theorem dX6_checkWhat_4 : decode cX6_checkWhat 4 = .ok (.iload_n 1, 1) := by decide +kernel
theorem dX6_checkWhat_5 : decode cX6_checkWhat 5 = .ok (.iload_n 2, 1) := by decide +kernel
theorem dX6_checkWhat_6 : decode cX6_checkWhat 6 = .ok (.if_icmp .lt 14, 3) := by decide +kernel
theorem dX6_checkWhat_9 : decode cX6_checkWhat 9 = .ok (.new 249, 3) := by decide +kernel
theorem dX6_checkWhat_12 : decode cX6_checkWhat 12 = .ok (.dup, 1) := by decide +kernel
theorem dX6_checkWhat_13 : decode cX6_checkWhat 13 = .ok (.ldc_w 350, 3) := by decide +kernel
theorem dX6_checkWhat_16 : decode cX6_checkWhat 16 = .ok (.invokespecial 253, 3) := by decide +kernel
theorem dX6_checkWhat_19 : decode cX6_checkWhat 19 = .ok (.athrow, 1) := by decide +kernel
theorem dX6_checkWhat_20 : decode cX6_checkWhat 20 = .ok (.return_, 1) := by decide +kernel
theorem dX6_checkCarp_0 : decode cX6_checkCarp 0 = .ok (.iload_n 1, 1) := by decide +kernel
theorem dX6_checkCarp_1 : decode cX6_checkCarp 1 = .ok (.ifCond .lt 14, 3) := by decide +kernel
theorem dX6_checkCarp_4 : decode cX6_checkCarp 4 = .ok (.iload_n 1, 1) := by decide +kernel
theorem dX6_checkCarp_5 : decode cX6_checkCarp 5 = .ok (.aload_n 0, 1) := by decide +kernel
theorem dX6_checkCarp_6 : decode cX6_checkCarp 6 = .ok (.getfield 19, 3) := by decide +kernel
theorem dX6_checkCarp_9 : decode cX6_checkCarp 9 = .ok (.getfield 129, 3) := by decide +kernel
theorem dX6_checkCarp_12 : decode cX6_checkCarp 12 = .ok (.if_icmp .lt 14, 3) := by decide +kernel
theorem dX6_checkCarp_15 : decode cX6_checkCarp 15 = .ok (.new 249, 3) := by decide +kernel
theorem dX6_checkCarp_18 : decode cX6_checkCarp 18 = .ok (.dup, 1) := by decide +kernel
theorem dX6_checkCarp_19 : decode cX6_checkCarp 19 = .ok (.ldc_w 352, 3) := by decide +kernel
theorem dX6_checkCarp_22 : decode cX6_checkCarp 22 = .ok (.invokespecial 253, 3) := by decide +kernel
theorem dX6_checkCarp_25 : decode cX6_checkCarp 25 = .ok (.athrow, 1) := by decide +kernel
theorem dX6_checkCarp_26 : decode cX6_checkCarp 26 = .ok (.return_, 1) := by decide +kernel
theorem dX6_checkGate_0 : decode cX6_checkGate 0 = .ok (.iload_n 1, 1) := by decide +kernel
theorem dX6_checkGate_1 : decode cX6_checkGate 1 = .ok (.ifCond .lt 14, 3) := by decide +kernel
theorem dX6_checkGate_4 : decode cX6_checkGate 4 = .ok (.iload_n 1, 1) := by decide +kernel
theorem dX6_checkGate_5 : decode cX6_checkGate 5 = .ok (.aload_n 0, 1) := by decide +kernel
theorem dX6_checkGate_6 : decode cX6_checkGate 6 = .ok (.getfield 26, 3) := by decide +kernel
theorem dX6_checkGate_9 : decode cX6_checkGate 9 = .ok (.getfield 171, 3) := by decide +kernel
theorem dX6_checkGate_12 : decode cX6_checkGate 12 = .ok (.if_icmp .lt 14, 3) := by decide +kernel
theorem dX6_checkGate_15 : decode cX6_checkGate 15 = .ok (.new 249, 3) := by decide +kernel
theorem dX6_checkGate_18 : decode cX6_checkGate 18 = .ok (.dup, 1) := by decide +kernel
theorem dX6_checkGate_19 : decode cX6_checkGate 19 = .ok (.ldc_w 354, 3) := by decide +kernel
theorem dX6_checkGate_22 : decode cX6_checkGate 22 = .ok (.invokespecial 253, 3) := by decide +kernel
theorem dX6_checkGate_25 : decode cX6_checkGate 25 = .ok (.athrow, 1) := by decide +kernel
theorem dX6_checkGate_26 : decode cX6_checkGate 26 = .ok (.return_, 1) := by decide +kernel
theorem dX6_checkPoet_0 : decode cX6_checkPoet 0 = .ok (.iload_n 1, 1) := by decide +kernel
theorem dX6_checkPoet_1 : decode cX6_checkPoet 1 = .ok (.ifCond .lt 14, 3) := by decide +kernel
theorem dX6_checkPoet_4 : decode cX6_checkPoet 4 = .ok (.iload_n 1, 1) := by decide +kernel
theorem dX6_checkPoet_5 : decode cX6_checkPoet 5 = .ok (.aload_n 0, 1) := by decide +kernel
theorem dX6_checkPoet_6 : decode cX6_checkPoet 6 = .ok (.getfield 33, 3) := by decide +kernel
theorem dX6_checkPoet_9 : decode cX6_checkPoet 9 = .ok (.getfield 200, 3) := by decide +kernel
theorem dX6_checkPoet_12 : decode cX6_checkPoet 12 = .ok (.if_icmp .lt 14, 3) := by decide +kernel
theorem dX6_checkPoet_15 : decode cX6_checkPoet 15 = .ok (.new 249, 3) := by decide +kernel
theorem dX6_checkPoet_18 : decode cX6_checkPoet 18 = .ok (.dup, 1) := by decide +kernel
theorem dX6_checkPoet_19 : decode cX6_checkPoet 19 = .ok (.ldc_w 356, 3) := by decide +kernel
theorem dX6_checkPoet_22 : decode cX6_checkPoet 22 = .ok (.invokespecial 253, 3) := by decide +kernel
theorem dX6_checkPoet_25 : decode cX6_checkPoet 25 = .ok (.athrow, 1) := by decide +kernel
theorem dX6_checkPoet_26 : decode cX6_checkPoet 26 = .ok (.return_, 1) := by decide +kernel
theorem dX6_checkDays_0 : decode cX6_checkDays 0 = .ok (.iload_n 1, 1) := by decide +kernel
theorem dX6_checkDays_1 : decode cX6_checkDays 1 = .ok (.iconst 1, 1) := by decide +kernel
theorem dX6_checkDays_2 : decode cX6_checkDays 2 = .ok (.if_icmp .lt 9, 3) := by decide +kernel
theorem dX6_checkDays_5 : decode cX6_checkDays 5 = .ok (.iload_n 1, 1) := by decide +kernel
theorem dX6_checkDays_6 : decode cX6_checkDays 6 = .ok (.bipush 60, 2) := by decide +kernel
theorem dX6_checkDays_8 : decode cX6_checkDays 8 = .ok (.if_icmp .le 14, 3) := by decide +kernel
theorem dX6_checkDays_11 : decode cX6_checkDays 11 = .ok (.new 166, 3) := by decide +kernel
theorem dX6_checkDays_14 : decode cX6_checkDays 14 = .ok (.dup, 1) := by decide +kernel
theorem dX6_checkDays_15 : decode cX6_checkDays 15 = .ok (.ldc_w 358, 3) := by decide +kernel
theorem dX6_checkDays_18 : decode cX6_checkDays 18 = .ok (.invokespecial 170, 3) := by decide +kernel
theorem dX6_checkDays_21 : decode cX6_checkDays 21 = .ok (.athrow, 1) := by decide +kernel
theorem dX6_checkDays_22 : decode cX6_checkDays 22 = .ok (.return_, 1) := by decide +kernel

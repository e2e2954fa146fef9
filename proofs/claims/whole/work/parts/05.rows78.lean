theorem dX7_init_0 : decode cX7_init 0 = .ok (.aload_n 0, 1) := by decide +kernel
theorem dX7_init_1 : decode cX7_init 1 = .ok (.invokespecial 3, 3) := by decide +kernel
theorem dX7_init_4 : decode cX7_init 4 = .ok (.aload_n 0, 1) := by decide +kernel
theorem dX7_init_5 : decode cX7_init 5 = .ok (.bipush 100, 2) := by decide +kernel
theorem dX7_init_7 : decode cX7_init 7 = .ok (.putfield 9, 3) := by decide +kernel
theorem dX7_init_10 : decode cX7_init 10 = .ok (.aload_n 0, 1) := by decide +kernel
theorem dX7_init_11 : decode cX7_init 11 = .ok (.bipush 30, 2) := by decide +kernel
theorem dX7_init_13 : decode cX7_init 13 = .ok (.newarray .int, 2) := by decide +kernel
theorem dX7_init_15 : decode cX7_init 15 = .ok (.putfield 15, 3) := by decide +kernel
theorem dX7_init_18 : decode cX7_init 18 = .ok (.aload_n 0, 1) := by decide +kernel
theorem dX7_init_19 : decode cX7_init 19 = .ok (.iconst 5, 1) := by decide +kernel
theorem dX7_init_20 : decode cX7_init 20 = .ok (.newarray .int, 2) := by decide +kernel
theorem dX7_init_22 : decode cX7_init 22 = .ok (.putfield 19, 3) := by decide +kernel
theorem dX7_init_25 : decode cX7_init 25 = .ok (.return_, 1) := by decide +kernel
theorem dX7_become_0 : decode cX7_become 0 = .ok (.aload_n 0, 1) := by decide +kernel
theorem dX7_become_1 : decode cX7_become 1 = .ok (.aload_n 1, 1) := by decide +kernel
theorem dX7_become_2 : decode cX7_become 2 = .ok (.getfield 22, 3) := by decide +kernel
theorem dX7_become_5 : decode cX7_become 5 = .ok (.putfield 22, 3) := by decide +kernel
theorem dX7_become_8 : decode cX7_become 8 = .ok (.aload_n 0, 1) := by decide +kernel
theorem dX7_become_9 : decode cX7_become 9 = .ok (.aload_n 1, 1) := by decide +kernel
theorem dX7_become_10 : decode cX7_become 10 = .ok (.getfield 9, 3) := by decide +kernel
theorem dX7_become_13 : decode cX7_become 13 = .ok (.putfield 9, 3) := by decide +kernel
theorem dX7_become_16 : decode cX7_become 16 = .ok (.aload_n 1, 1) := by decide +kernel
theorem dX7_become_17 : decode cX7_become 17 = .ok (.getfield 15, 3) := by decide +kernel
theorem dX7_become_20 : decode cX7_become 20 = .ok (.iconst 0, 1) := by decide +kernel
theorem dX7_become_21 : decode cX7_become 21 = .ok (.aload_n 0, 1) := by decide +kernel
theorem dX7_become_22 : decode cX7_become 22 = .ok (.getfield 15, 3) := by decide +kernel
theorem dX7_become_25 : decode cX7_become 25 = .ok (.iconst 0, 1) := by decide +kernel
theorem dX7_become_26 : decode cX7_become 26 = .ok (.bipush 30, 2) := by decide +kernel
theorem dX7_become_28 : decode cX7_become 28 = .ok (.invokestatic 25, 3) := by decide +kernel
theorem dX7_become_31 : decode cX7_become 31 = .ok (.aload_n 1, 1) := by decide +kernel
theorem dX7_become_32 : decode cX7_become 32 = .ok (.getfield 19, 3) := by decide +kernel
theorem dX7_become_35 : decode cX7_become 35 = .ok (.iconst 0, 1) := by decide +kernel
theorem dX7_become_36 : decode cX7_become 36 = .ok (.aload_n 0, 1) := by decide +kernel
theorem dX7_become_37 : decode cX7_become 37 = .ok (.getfield 19, 3) := by decide +kernel
theorem dX7_become_40 : decode cX7_become 40 = .ok (.iconst 0, 1) := by decide +kernel
theorem dX7_become_41 : decode cX7_become 41 = .ok (.iconst 5, 1) := by decide +kernel
theorem dX7_become_42 : decode cX7_become 42 = .ok (.invokestatic 25, 3) := by decide +kernel
theorem dX7_become_45 : decode cX7_become 45 = .ok (.return_, 1) := by decide +kernel
set_option maxRecDepth 20000 in
theorem ggX8_init_X7_init : GoodIn wsX8_init wsX7_init := goodIn_r _ [20, 21, 2, 3, 22, 4, 23, 24, 40, 41, 42, 43] (by decide +kernel) (by decide +kernel)
set_option maxRecDepth 20000 in
theorem gX8_init_X7_init_n39 : GoodIn wsX8_init (wsX7_init) := ggX8_init_X7_init
theorem dX8_init_0 : decode cX8_init 0 = .ok (.aload_n 0, 1) := by decide +kernel
theorem dX8_init_1 : decode cX8_init 1 = .ok (.invokespecial 3, 3) := by decide +kernel
theorem dX8_init_4 : decode cX8_init 4 = .ok (.aload_n 0, 1) := by decide +kernel
theorem dX8_init_5 : decode cX8_init 5 = .ok (.bipush 70, 2) := by decide +kernel
theorem dX8_init_7 : decode cX8_init 7 = .ok (.newarray .int, 2) := by decide +kernel
theorem dX8_init_9 : decode cX8_init 9 = .ok (.putfield 9, 3) := by decide +kernel
theorem dX8_init_12 : decode cX8_init 12 = .ok (.aload_n 0, 1) := by decide +kernel
theorem dX8_init_13 : decode cX8_init 13 = .ok (.bipush 70, 2) := by decide +kernel
theorem dX8_init_15 : decode cX8_init 15 = .ok (.newarray .int, 2) := by decide +kernel
theorem dX8_init_17 : decode cX8_init 17 = .ok (.putfield 13, 3) := by decide +kernel
theorem dX8_init_20 : decode cX8_init 20 = .ok (.aload_n 0, 1) := by decide +kernel
theorem dX8_init_21 : decode cX8_init 21 = .ok (.bipush 70, 2) := by decide +kernel
theorem dX8_init_23 : decode cX8_init 23 = .ok (.newarray .int, 2) := by decide +kernel
theorem dX8_init_25 : decode cX8_init 25 = .ok (.putfield 16, 3) := by decide +kernel
theorem dX8_init_28 : decode cX8_init 28 = .ok (.aload_n 0, 1) := by decide +kernel
theorem dX8_init_29 : decode cX8_init 29 = .ok (.bipush 70, 2) := by decide +kernel
theorem dX8_init_31 : decode cX8_init 31 = .ok (.newarray .int, 2) := by decide +kernel
theorem dX8_init_33 : decode cX8_init 33 = .ok (.putfield 19, 3) := by decide +kernel
theorem dX8_init_36 : decode cX8_init 36 = .ok (.aload_n 0, 1) := by decide +kernel
theorem dX8_init_37 : decode cX8_init 37 = .ok (.bipush 30, 2) := by decide +kernel
theorem dX8_init_39 : decode cX8_init 39 = .ok (.newarray .int, 2) := by decide +kernel
theorem dX8_init_41 : decode cX8_init 41 = .ok (.putfield 22, 3) := by decide +kernel
theorem dX8_init_44 : decode cX8_init 44 = .ok (.aload_n 0, 1) := by decide +kernel
theorem dX8_init_45 : decode cX8_init 45 = .ok (.bipush 30, 2) := by decide +kernel
theorem dX8_init_47 : decode cX8_init 47 = .ok (.newarray .int, 2) := by decide +kernel
theorem dX8_init_49 : decode cX8_init 49 = .ok (.putfield 25, 3) := by decide +kernel
theorem dX8_init_52 : decode cX8_init 52 = .ok (.aload_n 0, 1) := by decide +kernel
theorem dX8_init_53 : decode cX8_init 53 = .ok (.bipush 6, 2) := by decide +kernel
theorem dX8_init_55 : decode cX8_init 55 = .ok (.newarray .int, 2) := by decide +kernel
theorem dX8_init_57 : decode cX8_init 57 = .ok (.putfield 28, 3) := by decide +kernel
theorem dX8_init_60 : decode cX8_init 60 = .ok (.aload_n 0, 1) := by decide +kernel
theorem dX8_init_61 : decode cX8_init 61 = .ok (.bipush 6, 2) := by decide +kernel
theorem dX8_init_63 : decode cX8_init 63 = .ok (.newarray .int, 2) := by decide +kernel
theorem dX8_init_65 : decode cX8_init 65 = .ok (.putfield 31, 3) := by decide +kernel
theorem dX8_init_68 : decode cX8_init 68 = .ok (.aload_n 0, 1) := by decide +kernel
theorem dX8_init_69 : decode cX8_init 69 = .ok (.iconst 5, 1) := by decide +kernel
theorem dX8_init_70 : decode cX8_init 70 = .ok (.newarray .int, 2) := by decide +kernel
theorem dX8_init_72 : decode cX8_init 72 = .ok (.putfield 34, 3) := by decide +kernel
theorem dX8_init_75 : decode cX8_init 75 = .ok (.aload_n 0, 1) := by decide +kernel
theorem dX8_init_76 : decode cX8_init 76 = .ok (.new 37, 3) := by decide +kernel
theorem dX8_init_79 : decode cX8_init 79 = .ok (.dup, 1) := by decide +kernel
theorem dX8_init_80 : decode cX8_init 80 = .ok (.invokespecial 39, 3) := by decide +kernel
theorem dX8_init_83 : decode cX8_init 83 = .ok (.putfield 40, 3) := by decide +kernel
theorem dX8_init_86 : decode cX8_init 86 = .ok (.aload_n 0, 1) := by decide +kernel
theorem dX8_init_87 : decode cX8_init 87 = .ok (.new 37, 3) := by decide +kernel
theorem dX8_init_90 : decode cX8_init 90 = .ok (.dup, 1) := by decide +kernel
theorem dX8_init_91 : decode cX8_init 91 = .ok (.invokespecial 39, 3) := by decide +kernel
theorem dX8_init_94 : decode cX8_init 94 = .ok (.putfield 44, 3) := by decide +kernel
theorem dX8_init_97 : decode cX8_init 97 = .ok (.return_, 1) := by decide +kernel
theorem dX8_thrown_0 : decode cX8_thrown 0 = .ok (.aload_n 0, 1) := by decide +kernel
theorem dX8_thrown_1 : decode cX8_thrown 1 = .ok (.getfield 47, 3) := by decide +kernel
theorem dX8_thrown_4 : decode cX8_thrown 4 = .ok (.ireturn, 1) := by decide +kernel
theorem dX8_no_0 : decode cX8_no 0 = .ok (.aload_n 0, 1) := by decide +kernel
theorem dX8_no_1 : decode cX8_no 1 = .ok (.iload_n 1, 1) := by decide +kernel
theorem dX8_no_2 : decode cX8_no 2 = .ok (.putfield 47, 3) := by decide +kernel
theorem dX8_no_5 : decode cX8_no 5 = .ok (.iconst 0, 1) := by decide +kernel
theorem dX8_no_6 : decode cX8_no 6 = .ok (.ireturn, 1) := by decide +kernel
theorem dX8_isIn_0 : decode cX8_isIn 0 = .ok (.iload_n 0, 1) := by decide +kernel
theorem dX8_isIn_1 : decode cX8_isIn 1 = .ok (.iload_n 1, 1) := by decide +kernel
theorem dX8_isIn_2 : decode cX8_isIn 2 = .ok (.if_icmp .lt 12, 3) := by decide +kernel
theorem dX8_isIn_5 : decode cX8_isIn 5 = .ok (.iload_n 0, 1) := by decide +kernel
theorem dX8_isIn_6 : decode cX8_isIn 6 = .ok (.iload_n 2, 1) := by decide +kernel
theorem dX8_isIn_7 : decode cX8_isIn 7 = .ok (.if_icmp .gt 7, 3) := by decide +kernel
theorem dX8_isIn_10 : decode cX8_isIn 10 = .ok (.iconst 1, 1) := by decide +kernel
theorem dX8_isIn_11 : decode cX8_isIn 11 = .ok (.goto 4, 3) := by decide +kernel
theorem dX8_isIn_14 : decode cX8_isIn 14 = .ok (.iconst 0, 1) := by decide +kernel
theorem dX8_isIn_15 : decode cX8_isIn 15 = .ok (.ireturn, 1) := by decide +kernel
set_option maxRecDepth 20000 in
theorem ggX8_isCell_X8_isIn : GoodIn wsX8_isCell wsX8_isIn := goodIn_r _ [4] (by decide +kernel) (by decide +kernel)
set_option maxRecDepth 20000 in
theorem gX8_isCell_X8_isIn : GoodIn wsX8_isCell (va_wsS RX8 51 yX8_isIn wsX8_isIn) := goodIn_app (goodIn_of _ (by decide +kernel)) ggX8_isCell_X8_isIn
theorem dX8_isCell_0 : decode cX8_isCell 0 = .ok (.iload_n 0, 1) := by decide +kernel
theorem dX8_isCell_1 : decode cX8_isCell 1 = .ok (.iconst 0, 1) := by decide +kernel
theorem dX8_isCell_2 : decode cX8_isCell 2 = .ok (.bipush 9, 2) := by decide +kernel
theorem dX8_isCell_4 : decode cX8_isCell 4 = .ok (.invokestatic 51, 3) := by decide +kernel
theorem dX8_isCell_7 : decode cX8_isCell 7 = .ok (.ifCond .eq 17, 3) := by decide +kernel
theorem dX8_isCell_10 : decode cX8_isCell 10 = .ok (.iload_n 1, 1) := by decide +kernel
theorem dX8_isCell_11 : decode cX8_isCell 11 = .ok (.iconst 0, 1) := by decide +kernel
theorem dX8_isCell_12 : decode cX8_isCell 12 = .ok (.bipush 6, 2) := by decide +kernel
theorem dX8_isCell_14 : decode cX8_isCell 14 = .ok (.invokestatic 51, 3) := by decide +kernel
theorem dX8_isCell_17 : decode cX8_isCell 17 = .ok (.ifCond .eq 7, 3) := by decide +kernel
theorem dX8_isCell_20 : decode cX8_isCell 20 = .ok (.iconst 1, 1) := by decide +kernel
theorem dX8_isCell_21 : decode cX8_isCell 21 = .ok (.goto 4, 3) := by decide +kernel
theorem dX8_isCell_24 : decode cX8_isCell 24 = .ok (.iconst 0, 1) := by decide +kernel
theorem dX8_isCell_25 : decode cX8_isCell 25 = .ok (.ireturn, 1) := by decide +kernel
set_option maxRecDepth 20000 in
theorem ggX8_isGate_X8_isIn : GoodIn wsX8_isGate wsX8_isIn := goodIn_r _ [5] (by decide +kernel) (by decide +kernel)
set_option maxRecDepth 20000 in
theorem gX8_isGate_X8_isIn : GoodIn wsX8_isGate (va_wsS RX8 51 yX8_isIn wsX8_isIn) := goodIn_app (goodIn_of _ (by decide +kernel)) ggX8_isGate_X8_isIn
theorem dX8_isGate_0 : decode cX8_isGate 0 = .ok (.iload_n 1, 1) := by decide +kernel
theorem dX8_isGate_1 : decode cX8_isGate 1 = .ok (.iconst 0, 1) := by decide +kernel
theorem dX8_isGate_2 : decode cX8_isGate 2 = .ok (.aload_n 0, 1) := by decide +kernel
theorem dX8_isGate_3 : decode cX8_isGate 3 = .ok (.getfield 55, 3) := by decide +kernel
theorem dX8_isGate_6 : decode cX8_isGate 6 = .ok (.iconst 1, 1) := by decide +kernel
theorem dX8_isGate_7 : decode cX8_isGate 7 = .ok (.isub, 1) := by decide +kernel
theorem dX8_isGate_8 : decode cX8_isGate 8 = .ok (.invokestatic 51, 3) := by decide +kernel
theorem dX8_isGate_11 : decode cX8_isGate 11 = .ok (.ireturn, 1) := by decide +kernel
set_option maxRecDepth 20000 in
theorem ggX8_isPoet_X8_isIn : GoodIn wsX8_isPoet wsX8_isIn := goodIn_r _ [5] (by decide +kernel) (by decide +kernel)
set_option maxRecDepth 20000 in
theorem gX8_isPoet_X8_isIn : GoodIn wsX8_isPoet (va_wsS RX8 51 yX8_isIn wsX8_isIn) := goodIn_app (goodIn_of _ (by decide +kernel)) ggX8_isPoet_X8_isIn
theorem dX8_isPoet_0 : decode cX8_isPoet 0 = .ok (.iload_n 1, 1) := by decide +kernel
theorem dX8_isPoet_1 : decode cX8_isPoet 1 = .ok (.iconst 0, 1) := by decide +kernel
theorem dX8_isPoet_2 : decode cX8_isPoet 2 = .ok (.aload_n 0, 1) := by decide +kernel
theorem dX8_isPoet_3 : decode cX8_isPoet 3 = .ok (.getfield 58, 3) := by decide +kernel
theorem dX8_isPoet_6 : decode cX8_isPoet 6 = .ok (.iconst 1, 1) := by decide +kernel
theorem dX8_isPoet_7 : decode cX8_isPoet 7 = .ok (.isub, 1) := by decide +kernel
theorem dX8_isPoet_8 : decode cX8_isPoet 8 = .ok (.invokestatic 51, 3) := by decide +kernel
theorem dX8_isPoet_11 : decode cX8_isPoet 11 = .ok (.ireturn, 1) := by decide +kernel
theorem dX8_areNeighbours_0 : decode cX8_areNeighbours 0 = .ok (.iload_n 0, 1) := by decide +kernel
theorem dX8_areNeighbours_1 : decode cX8_areNeighbours 1 = .ok (.bipush 10, 2) := by decide +kernel
theorem dX8_areNeighbours_3 : decode cX8_areNeighbours 3 = .ok (.irem, 1) := by decide +kernel
theorem dX8_areNeighbours_4 : decode cX8_areNeighbours 4 = .ok (.iload_n 1, 1) := by decide +kernel
theorem dX8_areNeighbours_5 : decode cX8_areNeighbours 5 = .ok (.bipush 10, 2) := by decide +kernel
theorem dX8_areNeighbours_7 : decode cX8_areNeighbours 7 = .ok (.irem, 1) := by decide +kernel
theorem dX8_areNeighbours_8 : decode cX8_areNeighbours 8 = .ok (.isub, 1) := by decide +kernel
theorem dX8_areNeighbours_9 : decode cX8_areNeighbours 9 = .ok (.invokestatic 61, 3) := by decide +kernel
theorem dX8_areNeighbours_12 : decode cX8_areNeighbours 12 = .ok (.iload_n 0, 1) := by decide +kernel
theorem dX8_areNeighbours_13 : decode cX8_areNeighbours 13 = .ok (.bipush 10, 2) := by decide +kernel
theorem dX8_areNeighbours_15 : decode cX8_areNeighbours 15 = .ok (.idiv, 1) := by decide +kernel
theorem dX8_areNeighbours_16 : decode cX8_areNeighbours 16 = .ok (.iload_n 1, 1) := by decide +kernel
theorem dX8_areNeighbours_17 : decode cX8_areNeighbours 17 = .ok (.bipush 10, 2) := by decide +kernel
theorem dX8_areNeighbours_19 : decode cX8_areNeighbours 19 = .ok (.idiv, 1) := by decide +kernel
theorem dX8_areNeighbours_20 : decode cX8_areNeighbours 20 = .ok (.isub, 1) := by decide +kernel
theorem dX8_areNeighbours_21 : decode cX8_areNeighbours 21 = .ok (.invokestatic 61, 3) := by decide +kernel
theorem dX8_areNeighbours_24 : decode cX8_areNeighbours 24 = .ok (.iadd, 1) := by decide +kernel
theorem dX8_areNeighbours_25 : decode cX8_areNeighbours 25 = .ok (.iconst 1, 1) := by decide +kernel
theorem dX8_areNeighbours_26 : decode cX8_areNeighbours 26 = .ok (.if_icmp .ne 7, 3) := by decide +kernel
theorem dX8_areNeighbours_29 : decode cX8_areNeighbours 29 = .ok (.iconst 1, 1) := by decide +kernel
theorem dX8_areNeighbours_30 : decode cX8_areNeighbours 30 = .ok (.goto 4, 3) := by decide +kernel
theorem dX8_areNeighbours_33 : decode cX8_areNeighbours 33 = .ok (.iconst 0, 1) := by decide +kernel
theorem dX8_areNeighbours_34 : decode cX8_areNeighbours 34 = .ok (.ireturn, 1) := by decide +kernel
set_option maxRecDepth 20000 in
theorem ggX8_markPonds_X8_areNeighbours : GoodIn wsX8_markPonds wsX8_areNeighbours := goodIn_r _ [6, 7, 8, 9, 10] (by decide +kernel) (by decide +kernel)
set_option maxRecDepth 20000 in
theorem gX8_markPonds_X8_areNeighbours : GoodIn wsX8_markPonds (va_wsS RX8 67 yX8_areNeighbours wsX8_areNeighbours) := goodIn_app (goodIn_of _ (by decide +kernel)) ggX8_markPonds_X8_areNeighbours
theorem dX8_markPonds_0 : decode cX8_markPonds 0 = .ok (.iconst 0, 1) := by decide +kernel
theorem dX8_markPonds_1 : decode cX8_markPonds 1 = .ok (.istore_n 1, 1) := by decide +kernel
theorem dX8_markPonds_2 : decode cX8_markPonds 2 = .ok (.iload_n 1, 1) := by decide +kernel
theorem dX8_markPonds_3 : decode cX8_markPonds 3 = .ok (.bipush 70, 2) := by decide +kernel
theorem dX8_markPonds_5 : decode cX8_markPonds 5 = .ok (.if_icmp .ge 30, 3) := by decide +kernel
theorem dX8_markPonds_8 : decode cX8_markPonds 8 = .ok (.aload_n 0, 1) := by decide +kernel
theorem dX8_markPonds_9 : decode cX8_markPonds 9 = .ok (.getfield 19, 3) := by decide +kernel
theorem dX8_markPonds_12 : decode cX8_markPonds 12 = .ok (.iload_n 1, 1) := by decide +kernel
theorem dX8_markPonds_13 : decode cX8_markPonds 13 = .ok (.aload_n 0, 1) := by decide +kernel
theorem dX8_markPonds_14 : decode cX8_markPonds 14 = .ok (.getfield 9, 3) := by decide +kernel
theorem dX8_markPonds_17 : decode cX8_markPonds 17 = .ok (.iload_n 1, 1) := by decide +kernel
theorem dX8_markPonds_18 : decode cX8_markPonds 18 = .ok (.iaload, 1) := by decide +kernel
theorem dX8_markPonds_19 : decode cX8_markPonds 19 = .ok (.iconst 2, 1) := by decide +kernel
theorem dX8_markPonds_20 : decode cX8_markPonds 20 = .ok (.if_icmp .ne 7, 3) := by decide +kernel
theorem dX8_markPonds_23 : decode cX8_markPonds 23 = .ok (.iload_n 1, 1) := by decide +kernel
theorem dX8_markPonds_24 : decode cX8_markPonds 24 = .ok (.goto 4, 3) := by decide +kernel
theorem dX8_markPonds_27 : decode cX8_markPonds 27 = .ok (.iconst (-1), 1) := by decide +kernel
theorem dX8_markPonds_28 : decode cX8_markPonds 28 = .ok (.iastore, 1) := by decide +kernel
theorem dX8_markPonds_29 : decode cX8_markPonds 29 = .ok (.iinc 1 1, 3) := by decide +kernel
theorem dX8_markPonds_32 : decode cX8_markPonds 32 = .ok (.goto (-30), 3) := by decide +kernel
theorem dX8_markPonds_35 : decode cX8_markPonds 35 = .ok (.iconst 1, 1) := by decide +kernel
theorem dX8_markPonds_36 : decode cX8_markPonds 36 = .ok (.istore_n 1, 1) := by decide +kernel
theorem dX8_markPonds_37 : decode cX8_markPonds 37 = .ok (.iload_n 1, 1) := by decide +kernel
theorem dX8_markPonds_38 : decode cX8_markPonds 38 = .ok (.ifCond .eq 96, 3) := by decide +kernel
theorem dX8_markPonds_41 : decode cX8_markPonds 41 = .ok (.iconst 0, 1) := by decide +kernel
theorem dX8_markPonds_42 : decode cX8_markPonds 42 = .ok (.istore_n 1, 1) := by decide +kernel
theorem dX8_markPonds_43 : decode cX8_markPonds 43 = .ok (.iconst 0, 1) := by decide +kernel
theorem dX8_markPonds_44 : decode cX8_markPonds 44 = .ok (.istore_n 2, 1) := by decide +kernel
theorem dX8_markPonds_45 : decode cX8_markPonds 45 = .ok (.iload_n 2, 1) := by decide +kernel
theorem dX8_markPonds_46 : decode cX8_markPonds 46 = .ok (.bipush 70, 2) := by decide +kernel
theorem dX8_markPonds_48 : decode cX8_markPonds 48 = .ok (.if_icmp .ge 83, 3) := by decide +kernel
theorem dX8_markPonds_51 : decode cX8_markPonds 51 = .ok (.iconst 0, 1) := by decide +kernel
theorem dX8_markPonds_52 : decode cX8_markPonds 52 = .ok (.istore_n 3, 1) := by decide +kernel
theorem dX8_markPonds_53 : decode cX8_markPonds 53 = .ok (.iload_n 3, 1) := by decide +kernel
theorem dX8_markPonds_54 : decode cX8_markPonds 54 = .ok (.bipush 70, 2) := by decide +kernel
theorem dX8_markPonds_56 : decode cX8_markPonds 56 = .ok (.if_icmp .ge 69, 3) := by decide +kernel
theorem dX8_markPonds_59 : decode cX8_markPonds 59 = .ok (.aload_n 0, 1) := by decide +kernel
theorem dX8_markPonds_60 : decode cX8_markPonds 60 = .ok (.getfield 19, 3) := by decide +kernel
theorem dX8_markPonds_63 : decode cX8_markPonds 63 = .ok (.iload_n 2, 1) := by decide +kernel
theorem dX8_markPonds_64 : decode cX8_markPonds 64 = .ok (.iaload, 1) := by decide +kernel
theorem dX8_markPonds_65 : decode cX8_markPonds 65 = .ok (.iconst (-1), 1) := by decide +kernel
theorem dX8_markPonds_66 : decode cX8_markPonds 66 = .ok (.if_icmp .eq 53, 3) := by decide +kernel
theorem dX8_markPonds_69 : decode cX8_markPonds 69 = .ok (.aload_n 0, 1) := by decide +kernel
theorem dX8_markPonds_70 : decode cX8_markPonds 70 = .ok (.getfield 19, 3) := by decide +kernel
theorem dX8_markPonds_73 : decode cX8_markPonds 73 = .ok (.iload_n 3, 1) := by decide +kernel
theorem dX8_markPonds_74 : decode cX8_markPonds 74 = .ok (.iaload, 1) := by decide +kernel
theorem dX8_markPonds_75 : decode cX8_markPonds 75 = .ok (.iconst (-1), 1) := by decide +kernel
theorem dX8_markPonds_76 : decode cX8_markPonds 76 = .ok (.if_icmp .eq 43, 3) := by decide +kernel
theorem dX8_markPonds_79 : decode cX8_markPonds 79 = .ok (.aload_n 0, 1) := by decide +kernel
theorem dX8_markPonds_80 : decode cX8_markPonds 80 = .ok (.getfield 19, 3) := by decide +kernel
theorem dX8_markPonds_83 : decode cX8_markPonds 83 = .ok (.iload_n 3, 1) := by decide +kernel
theorem dX8_markPonds_84 : decode cX8_markPonds 84 = .ok (.iaload, 1) := by decide +kernel
theorem dX8_markPonds_85 : decode cX8_markPonds 85 = .ok (.aload_n 0, 1) := by decide +kernel
theorem dX8_markPonds_86 : decode cX8_markPonds 86 = .ok (.getfield 19, 3) := by decide +kernel
theorem dX8_markPonds_89 : decode cX8_markPonds 89 = .ok (.iload_n 2, 1) := by decide +kernel
theorem dX8_markPonds_90 : decode cX8_markPonds 90 = .ok (.iaload, 1) := by decide +kernel
theorem dX8_markPonds_91 : decode cX8_markPonds 91 = .ok (.if_icmp .ge 28, 3) := by decide +kernel
theorem dX8_markPonds_94 : decode cX8_markPonds 94 = .ok (.iload_n 2, 1) := by decide +kernel
theorem dX8_markPonds_95 : decode cX8_markPonds 95 = .ok (.iload_n 3, 1) := by decide +kernel
theorem dX8_markPonds_96 : decode cX8_markPonds 96 = .ok (.invokestatic 67, 3) := by decide +kernel
theorem dX8_markPonds_99 : decode cX8_markPonds 99 = .ok (.ifCond .ne 6, 3) := by decide +kernel
theorem dX8_markPonds_102 : decode cX8_markPonds 102 = .ok (.goto 17, 3) := by decide +kernel
theorem dX8_markPonds_105 : decode cX8_markPonds 105 = .ok (.aload_n 0, 1) := by decide +kernel
theorem dX8_markPonds_106 : decode cX8_markPonds 106 = .ok (.getfield 19, 3) := by decide +kernel
theorem dX8_markPonds_109 : decode cX8_markPonds 109 = .ok (.iload_n 2, 1) := by decide +kernel
theorem dX8_markPonds_110 : decode cX8_markPonds 110 = .ok (.aload_n 0, 1) := by decide +kernel
theorem dX8_markPonds_111 : decode cX8_markPonds 111 = .ok (.getfield 19, 3) := by decide +kernel
theorem dX8_markPonds_114 : decode cX8_markPonds 114 = .ok (.iload_n 3, 1) := by decide +kernel
theorem dX8_markPonds_115 : decode cX8_markPonds 115 = .ok (.iaload, 1) := by decide +kernel
theorem dX8_markPonds_116 : decode cX8_markPonds 116 = .ok (.iastore, 1) := by decide +kernel
theorem dX8_markPonds_117 : decode cX8_markPonds 117 = .ok (.iconst 1, 1) := by decide +kernel
theorem dX8_markPonds_118 : decode cX8_markPonds 118 = .ok (.istore_n 1, 1) := by decide +kernel
theorem dX8_markPonds_119 : decode cX8_markPonds 119 = .ok (.iinc 3 1, 3) := by decide +kernel
theorem dX8_markPonds_122 : decode cX8_markPonds 122 = .ok (.goto (-69), 3) := by decide +kernel
theorem dX8_markPonds_125 : decode cX8_markPonds 125 = .ok (.iinc 2 1, 3) := by decide +kernel
theorem dX8_markPonds_128 : decode cX8_markPonds 128 = .ok (.goto (-83), 3) := by decide +kernel
theorem dX8_markPonds_131 : decode cX8_markPonds 131 = .ok (.goto (-94), 3) := by decide +kernel
theorem dX8_markPonds_134 : decode cX8_markPonds 134 = .ok (.return_, 1) := by decide +kernel
theorem dX8_cellsOf_0 : decode cX8_cellsOf 0 = .ok (.iconst 0, 1) := by decide +kernel
theorem dX8_cellsOf_1 : decode cX8_cellsOf 1 = .ok (.istore_n 2, 1) := by decide +kernel
theorem dX8_cellsOf_2 : decode cX8_cellsOf 2 = .ok (.aload_n 0, 1) := by decide +kernel
theorem dX8_cellsOf_3 : decode cX8_cellsOf 3 = .ok (.getfield 19, 3) := by decide +kernel
theorem dX8_cellsOf_6 : decode cX8_cellsOf 6 = .ok (.astore_n 3, 1) := by decide +kernel
theorem dX8_cellsOf_7 : decode cX8_cellsOf 7 = .ok (.aload_n 3, 1) := by decide +kernel
theorem dX8_cellsOf_8 : decode cX8_cellsOf 8 = .ok (.arraylength, 1) := by decide +kernel
theorem dX8_cellsOf_9 : decode cX8_cellsOf 9 = .ok (.istore 4, 2) := by decide +kernel
theorem dX8_cellsOf_11 : decode cX8_cellsOf 11 = .ok (.iconst 0, 1) := by decide +kernel
theorem dX8_cellsOf_12 : decode cX8_cellsOf 12 = .ok (.istore 5, 2) := by decide +kernel
theorem dX8_cellsOf_14 : decode cX8_cellsOf 14 = .ok (.iload 5, 2) := by decide +kernel
theorem dX8_cellsOf_16 : decode cX8_cellsOf 16 = .ok (.iload 4, 2) := by decide +kernel
theorem dX8_cellsOf_18 : decode cX8_cellsOf 18 = .ok (.if_icmp .ge 29, 3) := by decide +kernel
theorem dX8_cellsOf_21 : decode cX8_cellsOf 21 = .ok (.aload_n 3, 1) := by decide +kernel
theorem dX8_cellsOf_22 : decode cX8_cellsOf 22 = .ok (.iload 5, 2) := by decide +kernel
theorem dX8_cellsOf_24 : decode cX8_cellsOf 24 = .ok (.iaload, 1) := by decide +kernel
theorem dX8_cellsOf_25 : decode cX8_cellsOf 25 = .ok (.istore 6, 2) := by decide +kernel
theorem dX8_cellsOf_27 : decode cX8_cellsOf 27 = .ok (.iload_n 2, 1) := by decide +kernel
theorem dX8_cellsOf_28 : decode cX8_cellsOf 28 = .ok (.iload 6, 2) := by decide +kernel
theorem dX8_cellsOf_30 : decode cX8_cellsOf 30 = .ok (.iload_n 1, 1) := by decide +kernel
theorem dX8_cellsOf_31 : decode cX8_cellsOf 31 = .ok (.if_icmp .ne 7, 3) := by decide +kernel
theorem dX8_cellsOf_34 : decode cX8_cellsOf 34 = .ok (.iconst 1, 1) := by decide +kernel
theorem dX8_cellsOf_35 : decode cX8_cellsOf 35 = .ok (.goto 4, 3) := by decide +kernel
theorem dX8_cellsOf_38 : decode cX8_cellsOf 38 = .ok (.iconst 0, 1) := by decide +kernel
theorem dX8_cellsOf_39 : decode cX8_cellsOf 39 = .ok (.iadd, 1) := by decide +kernel
theorem dX8_cellsOf_40 : decode cX8_cellsOf 40 = .ok (.istore_n 2, 1) := by decide +kernel
theorem dX8_cellsOf_41 : decode cX8_cellsOf 41 = .ok (.iinc 5 1, 3) := by decide +kernel
theorem dX8_cellsOf_44 : decode cX8_cellsOf 44 = .ok (.goto (-30), 3) := by decide +kernel
theorem dX8_cellsOf_47 : decode cX8_cellsOf 47 = .ok (.iload_n 2, 1) := by decide +kernel
theorem dX8_cellsOf_48 : decode cX8_cellsOf 48 = .ok (.ireturn, 1) := by decide +kernel
theorem dX8_carpsOf_0 : decode cX8_carpsOf 0 = .ok (.iconst 0, 1) := by decide +kernel
theorem dX8_carpsOf_1 : decode cX8_carpsOf 1 = .ok (.istore_n 2, 1) := by decide +kernel
theorem dX8_carpsOf_2 : decode cX8_carpsOf 2 = .ok (.iconst 0, 1) := by decide +kernel
theorem dX8_carpsOf_3 : decode cX8_carpsOf 3 = .ok (.istore_n 3, 1) := by decide +kernel
theorem dX8_carpsOf_4 : decode cX8_carpsOf 4 = .ok (.iload_n 3, 1) := by decide +kernel
theorem dX8_carpsOf_5 : decode cX8_carpsOf 5 = .ok (.aload_n 0, 1) := by decide +kernel
theorem dX8_carpsOf_6 : decode cX8_carpsOf 6 = .ok (.getfield 71, 3) := by decide +kernel
theorem dX8_carpsOf_9 : decode cX8_carpsOf 9 = .ok (.if_icmp .ge 41, 3) := by decide +kernel
theorem dX8_carpsOf_12 : decode cX8_carpsOf 12 = .ok (.iload_n 2, 1) := by decide +kernel
theorem dX8_carpsOf_13 : decode cX8_carpsOf 13 = .ok (.aload_n 0, 1) := by decide +kernel
theorem dX8_carpsOf_14 : decode cX8_carpsOf 14 = .ok (.getfield 25, 3) := by decide +kernel
theorem dX8_carpsOf_17 : decode cX8_carpsOf 17 = .ok (.iload_n 3, 1) := by decide +kernel
theorem dX8_carpsOf_18 : decode cX8_carpsOf 18 = .ok (.iaload, 1) := by decide +kernel
theorem dX8_carpsOf_19 : decode cX8_carpsOf 19 = .ok (.ifCond .ne 22, 3) := by decide +kernel
theorem dX8_carpsOf_22 : decode cX8_carpsOf 22 = .ok (.aload_n 0, 1) := by decide +kernel
theorem dX8_carpsOf_23 : decode cX8_carpsOf 23 = .ok (.getfield 19, 3) := by decide +kernel
theorem dX8_carpsOf_26 : decode cX8_carpsOf 26 = .ok (.aload_n 0, 1) := by decide +kernel
theorem dX8_carpsOf_27 : decode cX8_carpsOf 27 = .ok (.getfield 22, 3) := by decide +kernel
theorem dX8_carpsOf_30 : decode cX8_carpsOf 30 = .ok (.iload_n 3, 1) := by decide +kernel
theorem dX8_carpsOf_31 : decode cX8_carpsOf 31 = .ok (.iaload, 1) := by decide +kernel
theorem dX8_carpsOf_32 : decode cX8_carpsOf 32 = .ok (.iaload, 1) := by decide +kernel
theorem dX8_carpsOf_33 : decode cX8_carpsOf 33 = .ok (.iload_n 1, 1) := by decide +kernel
theorem dX8_carpsOf_34 : decode cX8_carpsOf 34 = .ok (.if_icmp .ne 7, 3) := by decide +kernel
theorem dX8_carpsOf_37 : decode cX8_carpsOf 37 = .ok (.iconst 1, 1) := by decide +kernel
theorem dX8_carpsOf_38 : decode cX8_carpsOf 38 = .ok (.goto 4, 3) := by decide +kernel
theorem dX8_carpsOf_41 : decode cX8_carpsOf 41 = .ok (.iconst 0, 1) := by decide +kernel
theorem dX8_carpsOf_42 : decode cX8_carpsOf 42 = .ok (.iadd, 1) := by decide +kernel
theorem dX8_carpsOf_43 : decode cX8_carpsOf 43 = .ok (.istore_n 2, 1) := by decide +kernel
theorem dX8_carpsOf_44 : decode cX8_carpsOf 44 = .ok (.iinc 3 1, 3) := by decide +kernel
theorem dX8_carpsOf_47 : decode cX8_carpsOf 47 = .ok (.goto (-43), 3) := by decide +kernel
theorem dX8_carpsOf_50 : decode cX8_carpsOf 50 = .ok (.iload_n 2, 1) := by decide +kernel
theorem dX8_carpsOf_51 : decode cX8_carpsOf 51 = .ok (.ireturn, 1) := by decide +kernel
set_option maxRecDepth 20000 in
theorem ggX8_isTooFull_X8_carpsOf : GoodIn wsX8_isTooFull wsX8_carpsOf := goodIn_r _ [5, 6, 7, 8, 9, 14, 15, 16, 17, 18, 19, 20, 21, 22, 23, 24, 25, 26, 27, 28] (by decide +kernel) (by decide +kernel)
set_option maxRecDepth 20000 in
theorem gX8_isTooFull_X8_carpsOf : GoodIn wsX8_isTooFull (wsV RX8 74 RX8 yX8_carpsOf wsX8_carpsOf) := goodIn_app (goodIn_of _ (by decide +kernel)) ggX8_isTooFull_X8_carpsOf
set_option maxRecDepth 20000 in
theorem ggX8_isTooFull_X8_cellsOf : GoodIn wsX8_isTooFull wsX8_cellsOf := goodIn_r _ [13, 8, 14, 15, 16, 17, 18, 19, 20, 21, 22, 23, 24, 25, 26, 27, 28] (by decide +kernel) (by decide +kernel)
set_option maxRecDepth 20000 in
theorem gX8_isTooFull_X8_cellsOf : GoodIn wsX8_isTooFull (wsV RX8 77 RX8 yX8_cellsOf wsX8_cellsOf) := goodIn_app (goodIn_of _ (by decide +kernel)) ggX8_isTooFull_X8_cellsOf
theorem dX8_isTooFull_0 : decode cX8_isTooFull 0 = .ok (.aload_n 0, 1) := by decide +kernel
theorem dX8_isTooFull_1 : decode cX8_isTooFull 1 = .ok (.iload_n 1, 1) := by decide +kernel
theorem dX8_isTooFull_2 : decode cX8_isTooFull 2 = .ok (.invokevirtual 74, 3) := by decide +kernel
theorem dX8_isTooFull_5 : decode cX8_isTooFull 5 = .ok (.iconst 2, 1) := by decide +kernel
theorem dX8_isTooFull_6 : decode cX8_isTooFull 6 = .ok (.aload_n 0, 1) := by decide +kernel
theorem dX8_isTooFull_7 : decode cX8_isTooFull 7 = .ok (.iload_n 1, 1) := by decide +kernel
theorem dX8_isTooFull_8 : decode cX8_isTooFull 8 = .ok (.invokevirtual 77, 3) := by decide +kernel
theorem dX8_isTooFull_11 : decode cX8_isTooFull 11 = .ok (.imul, 1) := by decide +kernel
theorem dX8_isTooFull_12 : decode cX8_isTooFull 12 = .ok (.if_icmp .le 7, 3) := by decide +kernel
theorem dX8_isTooFull_15 : decode cX8_isTooFull 15 = .ok (.iconst 1, 1) := by decide +kernel
theorem dX8_isTooFull_16 : decode cX8_isTooFull 16 = .ok (.goto 4, 3) := by decide +kernel
theorem dX8_isTooFull_19 : decode cX8_isTooFull 19 = .ok (.iconst 0, 1) := by decide +kernel
theorem dX8_isTooFull_20 : decode cX8_isTooFull 20 = .ok (.ireturn, 1) := by decide +kernel
set_option maxRecDepth 20000 in
theorem ggX8_shows_X8_isCell : GoodIn wsX8_shows wsX8_isCell := goodIn_r _ [10, 11, 12, 9, 13] (by decide +kernel) (by decide +kernel)
set_option maxRecDepth 20000 in
theorem gX8_shows_X8_isCell : GoodIn wsX8_shows (va_wsS RX8 86 yX8_isCell wsX8_isCell) := goodIn_app (goodIn_of _ (by decide +kernel)) ggX8_shows_X8_isCell
theorem dX8_shows_0 : decode cX8_shows 0 = .ok (.aload_n 0, 1) := by decide +kernel
theorem dX8_shows_1 : decode cX8_shows 1 = .ok (.getfield 28, 3) := by decide +kernel
theorem dX8_shows_4 : decode cX8_shows 4 = .ok (.iload_n 1, 1) := by decide +kernel
theorem dX8_shows_5 : decode cX8_shows 5 = .ok (.iaload, 1) := by decide +kernel
theorem dX8_shows_6 : decode cX8_shows 6 = .ok (.bipush 10, 2) := by decide +kernel
theorem dX8_shows_8 : decode cX8_shows 8 = .ok (.irem, 1) := by decide +kernel
theorem dX8_shows_9 : decode cX8_shows 9 = .ok (.istore_n 3, 1) := by decide +kernel
theorem dX8_shows_10 : decode cX8_shows 10 = .ok (.aload_n 0, 1) := by decide +kernel
theorem dX8_shows_11 : decode cX8_shows 11 = .ok (.getfield 28, 3) := by decide +kernel
theorem dX8_shows_14 : decode cX8_shows 14 = .ok (.iload_n 1, 1) := by decide +kernel
theorem dX8_shows_15 : decode cX8_shows 15 = .ok (.iaload, 1) := by decide +kernel
theorem dX8_shows_16 : decode cX8_shows 16 = .ok (.bipush 10, 2) := by decide +kernel
theorem dX8_shows_18 : decode cX8_shows 18 = .ok (.idiv, 1) := by decide +kernel
theorem dX8_shows_19 : decode cX8_shows 19 = .ok (.istore 4, 2) := by decide +kernel
theorem dX8_shows_21 : decode cX8_shows 21 = .ok (.iconst 1, 1) := by decide +kernel
theorem dX8_shows_22 : decode cX8_shows 22 = .ok (.istore 5, 2) := by decide +kernel
theorem dX8_shows_24 : decode cX8_shows 24 = .ok (.iload_n 3, 1) := by decide +kernel
theorem dX8_shows_25 : decode cX8_shows 25 = .ok (.getstatic 80, 3) := by decide +kernel
theorem dX8_shows_28 : decode cX8_shows 28 = .ok (.aload_n 0, 1) := by decide +kernel
theorem dX8_shows_29 : decode cX8_shows 29 = .ok (.getfield 31, 3) := by decide +kernel
theorem dX8_shows_32 : decode cX8_shows 32 = .ok (.iload_n 1, 1) := by decide +kernel
theorem dX8_shows_33 : decode cX8_shows 33 = .ok (.iaload, 1) := by decide +kernel
theorem dX8_shows_34 : decode cX8_shows 34 = .ok (.iaload, 1) := by decide +kernel
theorem dX8_shows_35 : decode cX8_shows 35 = .ok (.iadd, 1) := by decide +kernel
theorem dX8_shows_36 : decode cX8_shows 36 = .ok (.istore_n 3, 1) := by decide +kernel
theorem dX8_shows_37 : decode cX8_shows 37 = .ok (.iload 4, 2) := by decide +kernel
theorem dX8_shows_39 : decode cX8_shows 39 = .ok (.getstatic 83, 3) := by decide +kernel
theorem dX8_shows_42 : decode cX8_shows 42 = .ok (.aload_n 0, 1) := by decide +kernel
theorem dX8_shows_43 : decode cX8_shows 43 = .ok (.getfield 31, 3) := by decide +kernel
theorem dX8_shows_46 : decode cX8_shows 46 = .ok (.iload_n 1, 1) := by decide +kernel
theorem dX8_shows_47 : decode cX8_shows 47 = .ok (.iaload, 1) := by decide +kernel
theorem dX8_shows_48 : decode cX8_shows 48 = .ok (.iaload, 1) := by decide +kernel
theorem dX8_shows_49 : decode cX8_shows 49 = .ok (.iadd, 1) := by decide +kernel
theorem dX8_shows_50 : decode cX8_shows 50 = .ok (.istore 4, 2) := by decide +kernel
theorem dX8_shows_52 : decode cX8_shows 52 = .ok (.iload_n 3, 1) := by decide +kernel
theorem dX8_shows_53 : decode cX8_shows 53 = .ok (.iload 4, 2) := by decide +kernel
theorem dX8_shows_55 : decode cX8_shows 55 = .ok (.invokestatic 86, 3) := by decide +kernel
theorem dX8_shows_58 : decode cX8_shows 58 = .ok (.ifCond .eq 19, 3) := by decide +kernel
theorem dX8_shows_61 : decode cX8_shows 61 = .ok (.aload_n 0, 1) := by decide +kernel
theorem dX8_shows_62 : decode cX8_shows 62 = .ok (.getfield 9, 3) := by decide +kernel
theorem dX8_shows_65 : decode cX8_shows 65 = .ok (.bipush 10, 2) := by decide +kernel
theorem dX8_shows_67 : decode cX8_shows 67 = .ok (.iload 4, 2) := by decide +kernel
theorem dX8_shows_69 : decode cX8_shows 69 = .ok (.imul, 1) := by decide +kernel
theorem dX8_shows_70 : decode cX8_shows 70 = .ok (.iload_n 3, 1) := by decide +kernel
theorem dX8_shows_71 : decode cX8_shows 71 = .ok (.iadd, 1) := by decide +kernel
theorem dX8_shows_72 : decode cX8_shows 72 = .ok (.iaload, 1) := by decide +kernel
theorem dX8_shows_73 : decode cX8_shows 73 = .ok (.iconst 3, 1) := by decide +kernel
theorem dX8_shows_74 : decode cX8_shows 74 = .ok (.if_icmp .ne 5, 3) := by decide +kernel
theorem dX8_shows_77 : decode cX8_shows 77 = .ok (.iconst (-1), 1) := by decide +kernel
theorem dX8_shows_78 : decode cX8_shows 78 = .ok (.ireturn, 1) := by decide +kernel
theorem dX8_shows_79 : decode cX8_shows 79 = .ok (.iload 5, 2) := by decide +kernel
theorem dX8_shows_81 : decode cX8_shows 81 = .ok (.iload_n 2, 1) := by decide +kernel
theorem dX8_shows_82 : decode cX8_shows 82 = .ok (.if_icmp .ne 11, 3) := by decide +kernel
theorem dX8_shows_85 : decode cX8_shows 85 = .ok (.bipush 10, 2) := by decide +kernel
theorem dX8_shows_87 : decode cX8_shows 87 = .ok (.iload 4, 2) := by decide +kernel
theorem dX8_shows_89 : decode cX8_shows 89 = .ok (.imul, 1) := by decide +kernel
theorem dX8_shows_90 : decode cX8_shows 90 = .ok (.iload_n 3, 1) := by decide +kernel
theorem dX8_shows_91 : decode cX8_shows 91 = .ok (.iadd, 1) := by decide +kernel
theorem dX8_shows_92 : decode cX8_shows 92 = .ok (.ireturn, 1) := by decide +kernel
theorem dX8_shows_93 : decode cX8_shows 93 = .ok (.aload_n 0, 1) := by decide +kernel
theorem dX8_shows_94 : decode cX8_shows 94 = .ok (.getfield 9, 3) := by decide +kernel
theorem dX8_shows_97 : decode cX8_shows 97 = .ok (.bipush 10, 2) := by decide +kernel
theorem dX8_shows_99 : decode cX8_shows 99 = .ok (.iload 4, 2) := by decide +kernel
theorem dX8_shows_101 : decode cX8_shows 101 = .ok (.imul, 1) := by decide +kernel
theorem dX8_shows_102 : decode cX8_shows 102 = .ok (.iload_n 3, 1) := by decide +kernel
theorem dX8_shows_103 : decode cX8_shows 103 = .ok (.iadd, 1) := by decide +kernel
theorem dX8_shows_104 : decode cX8_shows 104 = .ok (.iaload, 1) := by decide +kernel
theorem dX8_shows_105 : decode cX8_shows 105 = .ok (.iconst 1, 1) := by decide +kernel
theorem dX8_shows_106 : decode cX8_shows 106 = .ok (.if_icmp .ne 22, 3) := by decide +kernel
theorem dX8_shows_109 : decode cX8_shows 109 = .ok (.aload_n 0, 1) := by decide +kernel
theorem dX8_shows_110 : decode cX8_shows 110 = .ok (.getfield 16, 3) := by decide +kernel
theorem dX8_shows_113 : decode cX8_shows 113 = .ok (.bipush 10, 2) := by decide +kernel
theorem dX8_shows_115 : decode cX8_shows 115 = .ok (.iload 4, 2) := by decide +kernel
theorem dX8_shows_117 : decode cX8_shows 117 = .ok (.imul, 1) := by decide +kernel
theorem dX8_shows_118 : decode cX8_shows 118 = .ok (.iload_n 3, 1) := by decide +kernel
theorem dX8_shows_119 : decode cX8_shows 119 = .ok (.iadd, 1) := by decide +kernel
theorem dX8_shows_120 : decode cX8_shows 120 = .ok (.iaload, 1) := by decide +kernel
theorem dX8_shows_121 : decode cX8_shows 121 = .ok (.bipush 7, 2) := by decide +kernel
theorem dX8_shows_123 : decode cX8_shows 123 = .ok (.if_icmp .lt 5, 3) := by decide +kernel
theorem dX8_shows_126 : decode cX8_shows 126 = .ok (.iconst (-1), 1) := by decide +kernel
theorem dX8_shows_127 : decode cX8_shows 127 = .ok (.ireturn, 1) := by decide +kernel
theorem dX8_shows_128 : decode cX8_shows 128 = .ok (.iinc 5 1, 3) := by decide +kernel
theorem dX8_shows_131 : decode cX8_shows 131 = .ok (.goto (-107), 3) := by decide +kernel
set_option maxRecDepth 20000 in
theorem ggX8_many_X8_shows : GoodIn wsX8_many wsX8_shows := goodIn_r _ [6, 7, 8, 9, 10, 1, 11, 12, 13, 5, 14, 15, 16, 17, 18, 19, 20, 21, 22, 23, 24, 25, 26, 27, 28, 29, 30, 31, 32] (by decide +kernel) (by decide +kernel)
set_option maxRecDepth 20000 in
theorem gX8_many_X8_shows : GoodIn wsX8_many (wsV RX8 89 RX8 yX8_shows wsX8_shows) := goodIn_app (goodIn_of _ (by decide +kernel)) ggX8_many_X8_shows
theorem dX8_many_0 : decode cX8_many 0 = .ok (.iconst 0, 1) := by decide +kernel
theorem dX8_many_1 : decode cX8_many 1 = .ok (.istore_n 3, 1) := by decide +kernel
theorem dX8_many_2 : decode cX8_many 2 = .ok (.iconst 1, 1) := by decide +kernel
theorem dX8_many_3 : decode cX8_many 3 = .ok (.istore 4, 2) := by decide +kernel
theorem dX8_many_5 : decode cX8_many 5 = .ok (.aload_n 0, 1) := by decide +kernel
theorem dX8_many_6 : decode cX8_many 6 = .ok (.iload_n 1, 1) := by decide +kernel
theorem dX8_many_7 : decode cX8_many 7 = .ok (.iload 4, 2) := by decide +kernel
theorem dX8_many_9 : decode cX8_many 9 = .ok (.invokevirtual 89, 3) := by decide +kernel
theorem dX8_many_12 : decode cX8_many 12 = .ok (.iconst (-1), 1) := by decide +kernel
theorem dX8_many_13 : decode cX8_many 13 = .ok (.if_icmp .eq 37, 3) := by decide +kernel
theorem dX8_many_16 : decode cX8_many 16 = .ok (.iload_n 3, 1) := by decide +kernel
theorem dX8_many_17 : decode cX8_many 17 = .ok (.iload_n 2, 1) := by decide +kernel
theorem dX8_many_18 : decode cX8_many 18 = .ok (.ifCond .eq 19, 3) := by decide +kernel
theorem dX8_many_21 : decode cX8_many 21 = .ok (.aload_n 0, 1) := by decide +kernel
theorem dX8_many_22 : decode cX8_many 22 = .ok (.getfield 9, 3) := by decide +kernel
theorem dX8_many_25 : decode cX8_many 25 = .ok (.aload_n 0, 1) := by decide +kernel
theorem dX8_many_26 : decode cX8_many 26 = .ok (.iload_n 1, 1) := by decide +kernel
theorem dX8_many_27 : decode cX8_many 27 = .ok (.iload 4, 2) := by decide +kernel
theorem dX8_many_29 : decode cX8_many 29 = .ok (.invokevirtual 89, 3) := by decide +kernel
theorem dX8_many_32 : decode cX8_many 32 = .ok (.iaload, 1) := by decide +kernel
theorem dX8_many_33 : decode cX8_many 33 = .ok (.iload_n 2, 1) := by decide +kernel
theorem dX8_many_34 : decode cX8_many 34 = .ok (.if_icmp .ne 7, 3) := by decide +kernel
theorem dX8_many_37 : decode cX8_many 37 = .ok (.iconst 1, 1) := by decide +kernel
theorem dX8_many_38 : decode cX8_many 38 = .ok (.goto 4, 3) := by decide +kernel
theorem dX8_many_41 : decode cX8_many 41 = .ok (.iconst 0, 1) := by decide +kernel
theorem dX8_many_42 : decode cX8_many 42 = .ok (.iadd, 1) := by decide +kernel
theorem dX8_many_43 : decode cX8_many 43 = .ok (.istore_n 3, 1) := by decide +kernel
theorem dX8_many_44 : decode cX8_many 44 = .ok (.iinc 4 1, 3) := by decide +kernel
theorem dX8_many_47 : decode cX8_many 47 = .ok (.goto (-42), 3) := by decide +kernel
theorem dX8_many_50 : decode cX8_many 50 = .ok (.iload_n 3, 1) := by decide +kernel
theorem dX8_many_51 : decode cX8_many 51 = .ok (.ireturn, 1) := by decide +kernel
set_option maxRecDepth 20000 in
theorem ggX8_beauty_X8_shows : GoodIn wsX8_beauty wsX8_shows := goodIn_r _ [11, 12, 13, 14, 15, 1, 2, 16, 17, 10, 18, 19, 20, 21, 22, 23, 24, 25, 26, 27, 28, 29, 30, 31, 32, 33, 34, 35, 36] (by decide +kernel) (by decide +kernel)
set_option maxRecDepth 20000 in
theorem gX8_beauty_X8_shows : GoodIn wsX8_beauty (wsV RX8 89 RX8 yX8_shows wsX8_shows) := goodIn_app (goodIn_of _ (by decide +kernel)) ggX8_beauty_X8_shows
theorem dX8_beauty_0 : decode cX8_beauty 0 = .ok (.iconst 0, 1) := by decide +kernel
theorem dX8_beauty_1 : decode cX8_beauty 1 = .ok (.istore_n 3, 1) := by decide +kernel
theorem dX8_beauty_2 : decode cX8_beauty 2 = .ok (.iconst 0, 1) := by decide +kernel
theorem dX8_beauty_3 : decode cX8_beauty 3 = .ok (.istore 4, 2) := by decide +kernel
theorem dX8_beauty_5 : decode cX8_beauty 5 = .ok (.iconst 1, 1) := by decide +kernel
theorem dX8_beauty_6 : decode cX8_beauty 6 = .ok (.istore 5, 2) := by decide +kernel
theorem dX8_beauty_8 : decode cX8_beauty 8 = .ok (.aload_n 0, 1) := by decide +kernel
theorem dX8_beauty_9 : decode cX8_beauty 9 = .ok (.iload_n 1, 1) := by decide +kernel
theorem dX8_beauty_10 : decode cX8_beauty 10 = .ok (.iload 5, 2) := by decide +kernel
theorem dX8_beauty_12 : decode cX8_beauty 12 = .ok (.invokevirtual 89, 3) := by decide +kernel
theorem dX8_beauty_15 : decode cX8_beauty 15 = .ok (.iconst (-1), 1) := by decide +kernel
theorem dX8_beauty_16 : decode cX8_beauty 16 = .ok (.if_icmp .eq 157, 3) := by decide +kernel
theorem dX8_beauty_19 : decode cX8_beauty 19 = .ok (.aload_n 0, 1) := by decide +kernel
theorem dX8_beauty_20 : decode cX8_beauty 20 = .ok (.iload_n 1, 1) := by decide +kernel
theorem dX8_beauty_21 : decode cX8_beauty 21 = .ok (.iload 5, 2) := by decide +kernel
theorem dX8_beauty_23 : decode cX8_beauty 23 = .ok (.invokevirtual 89, 3) := by decide +kernel
theorem dX8_beauty_26 : decode cX8_beauty 26 = .ok (.istore 6, 2) := by decide +kernel
theorem dX8_beauty_28 : decode cX8_beauty 28 = .ok (.aload_n 0, 1) := by decide +kernel
theorem dX8_beauty_29 : decode cX8_beauty 29 = .ok (.getfield 9, 3) := by decide +kernel
theorem dX8_beauty_32 : decode cX8_beauty 32 = .ok (.iload 6, 2) := by decide +kernel
theorem dX8_beauty_34 : decode cX8_beauty 34 = .ok (.iaload, 1) := by decide +kernel
theorem dX8_beauty_35 : decode cX8_beauty 35 = .ok (.iconst 1, 1) := by decide +kernel
theorem dX8_beauty_36 : decode cX8_beauty 36 = .ok (.if_icmp .ne 51, 3) := by decide +kernel
theorem dX8_beauty_39 : decode cX8_beauty 39 = .ok (.iload_n 3, 1) := by decide +kernel
theorem dX8_beauty_40 : decode cX8_beauty 40 = .ok (.aload_n 0, 1) := by decide +kernel
theorem dX8_beauty_41 : decode cX8_beauty 41 = .ok (.getfield 16, 3) := by decide +kernel
theorem dX8_beauty_44 : decode cX8_beauty 44 = .ok (.iload 6, 2) := by decide +kernel
theorem dX8_beauty_46 : decode cX8_beauty 46 = .ok (.iaload, 1) := by decide +kernel
theorem dX8_beauty_47 : decode cX8_beauty 47 = .ok (.iload 4, 2) := by decide +kernel
theorem dX8_beauty_49 : decode cX8_beauty 49 = .ok (.aload_n 0, 1) := by decide +kernel
theorem dX8_beauty_50 : decode cX8_beauty 50 = .ok (.getfield 13, 3) := by decide +kernel
theorem dX8_beauty_53 : decode cX8_beauty 53 = .ok (.iload 6, 2) := by decide +kernel
theorem dX8_beauty_55 : decode cX8_beauty 55 = .ok (.iaload, 1) := by decide +kernel
theorem dX8_beauty_56 : decode cX8_beauty 56 = .ok (.ishr, 1) := by decide +kernel
theorem dX8_beauty_57 : decode cX8_beauty 57 = .ok (.iconst 1, 1) := by decide +kernel
theorem dX8_beauty_58 : decode cX8_beauty 58 = .ok (.iand, 1) := by decide +kernel
theorem dX8_beauty_59 : decode cX8_beauty 59 = .ok (.ifCond .ne 7, 3) := by decide +kernel
theorem dX8_beauty_62 : decode cX8_beauty 62 = .ok (.iconst 4, 1) := by decide +kernel
theorem dX8_beauty_63 : decode cX8_beauty 63 = .ok (.goto 4, 3) := by decide +kernel
theorem dX8_beauty_66 : decode cX8_beauty 66 = .ok (.iconst 0, 1) := by decide +kernel
theorem dX8_beauty_67 : decode cX8_beauty 67 = .ok (.iadd, 1) := by decide +kernel
theorem dX8_beauty_68 : decode cX8_beauty 68 = .ok (.iadd, 1) := by decide +kernel
theorem dX8_beauty_69 : decode cX8_beauty 69 = .ok (.istore_n 3, 1) := by decide +kernel
theorem dX8_beauty_70 : decode cX8_beauty 70 = .ok (.iload 4, 2) := by decide +kernel
theorem dX8_beauty_72 : decode cX8_beauty 72 = .ok (.iconst 1, 1) := by decide +kernel
theorem dX8_beauty_73 : decode cX8_beauty 73 = .ok (.aload_n 0, 1) := by decide +kernel
theorem dX8_beauty_74 : decode cX8_beauty 74 = .ok (.getfield 13, 3) := by decide +kernel
theorem dX8_beauty_77 : decode cX8_beauty 77 = .ok (.iload 6, 2) := by decide +kernel
theorem dX8_beauty_79 : decode cX8_beauty 79 = .ok (.iaload, 1) := by decide +kernel
theorem dX8_beauty_80 : decode cX8_beauty 80 = .ok (.ishl, 1) := by decide +kernel
theorem dX8_beauty_81 : decode cX8_beauty 81 = .ok (.ior, 1) := by decide +kernel
theorem dX8_beauty_82 : decode cX8_beauty 82 = .ok (.istore 4, 2) := by decide +kernel
theorem dX8_beauty_84 : decode cX8_beauty 84 = .ok (.goto 83, 3) := by decide +kernel
theorem dX8_beauty_87 : decode cX8_beauty 87 = .ok (.aload_n 0, 1) := by decide +kernel
theorem dX8_beauty_88 : decode cX8_beauty 88 = .ok (.getfield 9, 3) := by decide +kernel
theorem dX8_beauty_91 : decode cX8_beauty 91 = .ok (.iload 6, 2) := by decide +kernel
theorem dX8_beauty_93 : decode cX8_beauty 93 = .ok (.iaload, 1) := by decide +kernel
theorem dX8_beauty_94 : decode cX8_beauty 94 = .ok (.iconst 2, 1) := by decide +kernel
theorem dX8_beauty_95 : decode cX8_beauty 95 = .ok (.if_icmp .ne 72, 3) := by decide +kernel
theorem dX8_beauty_98 : decode cX8_beauty 98 = .ok (.iconst 0, 1) := by decide +kernel
theorem dX8_beauty_99 : decode cX8_beauty 99 = .ok (.istore 7, 2) := by decide +kernel
theorem dX8_beauty_101 : decode cX8_beauty 101 = .ok (.iconst 0, 1) := by decide +kernel
theorem dX8_beauty_102 : decode cX8_beauty 102 = .ok (.istore 8, 2) := by decide +kernel
theorem dX8_beauty_104 : decode cX8_beauty 104 = .ok (.iload 8, 2) := by decide +kernel
theorem dX8_beauty_106 : decode cX8_beauty 106 = .ok (.aload_n 0, 1) := by decide +kernel
theorem dX8_beauty_107 : decode cX8_beauty 107 = .ok (.getfield 71, 3) := by decide +kernel
theorem dX8_beauty_110 : decode cX8_beauty 110 = .ok (.if_icmp .ge 47, 3) := by decide +kernel
theorem dX8_beauty_113 : decode cX8_beauty 113 = .ok (.iload 7, 2) := by decide +kernel
theorem dX8_beauty_115 : decode cX8_beauty 115 = .ok (.aload_n 0, 1) := by decide +kernel
theorem dX8_beauty_116 : decode cX8_beauty 116 = .ok (.getfield 25, 3) := by decide +kernel
theorem dX8_beauty_119 : decode cX8_beauty 119 = .ok (.iload 8, 2) := by decide +kernel
theorem dX8_beauty_121 : decode cX8_beauty 121 = .ok (.iaload, 1) := by decide +kernel
theorem dX8_beauty_122 : decode cX8_beauty 122 = .ok (.ifCond .ne 25, 3) := by decide +kernel
theorem dX8_beauty_125 : decode cX8_beauty 125 = .ok (.aload_n 0, 1) := by decide +kernel
theorem dX8_beauty_126 : decode cX8_beauty 126 = .ok (.getfield 22, 3) := by decide +kernel
theorem dX8_beauty_129 : decode cX8_beauty 129 = .ok (.iload 8, 2) := by decide +kernel
theorem dX8_beauty_131 : decode cX8_beauty 131 = .ok (.iaload, 1) := by decide +kernel
theorem dX8_beauty_132 : decode cX8_beauty 132 = .ok (.iload 6, 2) := by decide +kernel
theorem dX8_beauty_134 : decode cX8_beauty 134 = .ok (.if_icmp .ne 13, 3) := by decide +kernel
theorem dX8_beauty_137 : decode cX8_beauty 137 = .ok (.aload_n 2, 1) := by decide +kernel
theorem dX8_beauty_138 : decode cX8_beauty 138 = .ok (.getfield 93, 3) := by decide +kernel
theorem dX8_beauty_141 : decode cX8_beauty 141 = .ok (.iload 8, 2) := by decide +kernel
theorem dX8_beauty_143 : decode cX8_beauty 143 = .ok (.iaload, 1) := by decide +kernel
theorem dX8_beauty_144 : decode cX8_beauty 144 = .ok (.goto 4, 3) := by decide +kernel
theorem dX8_beauty_147 : decode cX8_beauty 147 = .ok (.iconst 0, 1) := by decide +kernel
theorem dX8_beauty_148 : decode cX8_beauty 148 = .ok (.iadd, 1) := by decide +kernel
theorem dX8_beauty_149 : decode cX8_beauty 149 = .ok (.istore 7, 2) := by decide +kernel
theorem dX8_beauty_151 : decode cX8_beauty 151 = .ok (.iinc 8 1, 3) := by decide +kernel
theorem dX8_beauty_154 : decode cX8_beauty 154 = .ok (.goto (-50), 3) := by decide +kernel
theorem dX8_beauty_157 : decode cX8_beauty 157 = .ok (.iload_n 3, 1) := by decide +kernel
theorem dX8_beauty_158 : decode cX8_beauty 158 = .ok (.iconst 3, 1) := by decide +kernel
theorem dX8_beauty_159 : decode cX8_beauty 159 = .ok (.iload 7, 2) := by decide +kernel
theorem dX8_beauty_161 : decode cX8_beauty 161 = .ok (.bipush 10, 2) := by decide +kernel
theorem dX8_beauty_163 : decode cX8_beauty 163 = .ok (.idiv, 1) := by decide +kernel
theorem dX8_beauty_164 : decode cX8_beauty 164 = .ok (.iadd, 1) := by decide +kernel
theorem dX8_beauty_165 : decode cX8_beauty 165 = .ok (.iadd, 1) := by decide +kernel
theorem dX8_beauty_166 : decode cX8_beauty 166 = .ok (.istore_n 3, 1) := by decide +kernel
theorem dX8_beauty_167 : decode cX8_beauty 167 = .ok (.iinc 5 1, 3) := by decide +kernel
theorem dX8_beauty_170 : decode cX8_beauty 170 = .ok (.goto (-162), 3) := by decide +kernel
theorem dX8_beauty_173 : decode cX8_beauty 173 = .ok (.iload_n 3, 1) := by decide +kernel
theorem dX8_beauty_174 : decode cX8_beauty 174 = .ok (.ireturn, 1) := by decide +kernel
theorem dX8_spent_0 : decode cX8_spent 0 = .ok (.aload_n 0, 1) := by decide +kernel
theorem dX8_spent_1 : decode cX8_spent 1 = .ok (.getfield 9, 3) := by decide +kernel
theorem dX8_spent_4 : decode cX8_spent 4 = .ok (.bipush 10, 2) := by decide +kernel
theorem dX8_spent_6 : decode cX8_spent 6 = .ok (.iload_n 2, 1) := by decide +kernel
theorem dX8_spent_7 : decode cX8_spent 7 = .ok (.imul, 1) := by decide +kernel
theorem dX8_spent_8 : decode cX8_spent 8 = .ok (.iload_n 1, 1) := by decide +kernel
theorem dX8_spent_9 : decode cX8_spent 9 = .ok (.iadd, 1) := by decide +kernel
theorem dX8_spent_10 : decode cX8_spent 10 = .ok (.iload_n 3, 1) := by decide +kernel
theorem dX8_spent_11 : decode cX8_spent 11 = .ok (.iastore, 1) := by decide +kernel
theorem dX8_spent_12 : decode cX8_spent 12 = .ok (.aload_n 0, 1) := by decide +kernel
theorem dX8_spent_13 : decode cX8_spent 13 = .ok (.getfield 40, 3) := by decide +kernel
theorem dX8_spent_16 : decode cX8_spent 16 = .ok (.dup, 1) := by decide +kernel
theorem dX8_spent_17 : decode cX8_spent 17 = .ok (.getfield 96, 3) := by decide +kernel
theorem dX8_spent_20 : decode cX8_spent 20 = .ok (.iload 4, 2) := by decide +kernel
theorem dX8_spent_22 : decode cX8_spent 22 = .ok (.isub, 1) := by decide +kernel
theorem dX8_spent_23 : decode cX8_spent 23 = .ok (.putfield 96, 3) := by decide +kernel
theorem dX8_spent_26 : decode cX8_spent 26 = .ok (.aload_n 0, 1) := by decide +kernel
theorem dX8_spent_27 : decode cX8_spent 27 = .ok (.getfield 40, 3) := by decide +kernel
theorem dX8_spent_30 : decode cX8_spent 30 = .ok (.getfield 96, 3) := by decide +kernel
theorem dX8_spent_33 : decode cX8_spent 33 = .ok (.ireturn, 1) := by decide +kernel
theorem dX8_canBuild_0 : decode cX8_canBuild 0 = .ok (.aload_n 0, 1) := by decide +kernel
theorem dX8_canBuild_1 : decode cX8_canBuild 1 = .ok (.getfield 9, 3) := by decide +kernel
theorem dX8_canBuild_4 : decode cX8_canBuild 4 = .ok (.bipush 10, 2) := by decide +kernel
theorem dX8_canBuild_6 : decode cX8_canBuild 6 = .ok (.iload_n 2, 1) := by decide +kernel
theorem dX8_canBuild_7 : decode cX8_canBuild 7 = .ok (.imul, 1) := by decide +kernel
theorem dX8_canBuild_8 : decode cX8_canBuild 8 = .ok (.iload_n 1, 1) := by decide +kernel
theorem dX8_canBuild_9 : decode cX8_canBuild 9 = .ok (.iadd, 1) := by decide +kernel
theorem dX8_canBuild_10 : decode cX8_canBuild 10 = .ok (.iaload, 1) := by decide +kernel
theorem dX8_canBuild_11 : decode cX8_canBuild 11 = .ok (.ifCond .ne 18, 3) := by decide +kernel
theorem dX8_canBuild_14 : decode cX8_canBuild 14 = .ok (.aload_n 0, 1) := by decide +kernel
theorem dX8_canBuild_15 : decode cX8_canBuild 15 = .ok (.getfield 40, 3) := by decide +kernel
theorem dX8_canBuild_18 : decode cX8_canBuild 18 = .ok (.getfield 96, 3) := by decide +kernel
theorem dX8_canBuild_21 : decode cX8_canBuild 21 = .ok (.iload_n 3, 1) := by decide +kernel
theorem dX8_canBuild_22 : decode cX8_canBuild 22 = .ok (.if_icmp .lt 7, 3) := by decide +kernel
theorem dX8_canBuild_25 : decode cX8_canBuild 25 = .ok (.iconst 1, 1) := by decide +kernel
theorem dX8_canBuild_26 : decode cX8_canBuild 26 = .ok (.goto 4, 3) := by decide +kernel
theorem dX8_canBuild_29 : decode cX8_canBuild 29 = .ok (.iconst 0, 1) := by decide +kernel
theorem dX8_canBuild_30 : decode cX8_canBuild 30 = .ok (.ireturn, 1) := by decide +kernel
set_option maxRecDepth 20000 in
theorem ggX8_rock_X8_isCell : GoodIn wsX8_rock wsX8_isCell := goodIn_r _ [7, 8, 9, 6, 10] (by decide +kernel) (by decide +kernel)
set_option maxRecDepth 20000 in
theorem gX8_rock_X8_isCell : GoodIn wsX8_rock (va_wsS RX8 86 yX8_isCell wsX8_isCell) := goodIn_app (goodIn_of _ (by decide +kernel)) ggX8_rock_X8_isCell
set_option maxRecDepth 20000 in
theorem ggX8_rock_X8_no : GoodIn wsX8_rock wsX8_no := goodIn_r _ [14, 1, 25, 26, 27, 28, 29, 30, 31, 32, 33, 34, 35, 36, 37, 38, 39] (by decide +kernel) (by decide +kernel)
set_option maxRecDepth 20000 in
theorem gX8_rock_X8_no : GoodIn wsX8_rock (wsV RX8 99 RX8 yX8_no wsX8_no) := goodIn_app (goodIn_of _ (by decide +kernel)) ggX8_rock_X8_no
set_option maxRecDepth 20000 in
theorem ggX8_rock_X8_isIn : GoodIn wsX8_rock wsX8_isIn := goodIn_r _ [10] (by decide +kernel) (by decide +kernel)
set_option maxRecDepth 20000 in
theorem gX8_rock_X8_isIn : GoodIn wsX8_rock (va_wsS RX8 51 yX8_isIn wsX8_isIn) := goodIn_app (goodIn_of _ (by decide +kernel)) ggX8_rock_X8_isIn
set_option maxRecDepth 20000 in
theorem ggX8_rock_X8_canBuild : GoodIn wsX8_rock wsX8_canBuild := goodIn_r _ [18, 19, 20, 25, 26, 27, 28, 29, 30, 31, 32, 33, 34, 35, 36, 37, 38, 39, 40, 41, 42, 43] (by decide +kernel) (by decide +kernel)
set_option maxRecDepth 20000 in
theorem gX8_rock_X8_canBuild : GoodIn wsX8_rock (wsV RX8 102 RX8 yX8_canBuild wsX8_canBuild) := goodIn_app (goodIn_of _ (by decide +kernel)) ggX8_rock_X8_canBuild
set_option maxRecDepth 20000 in
theorem ggX8_rock_X8_spent : GoodIn wsX8_rock wsX8_spent := goodIn_r _ [24, 19, 20, 25, 26, 27, 28, 29, 30, 31, 32, 33, 34, 35, 36, 37, 38, 39, 40, 41, 42, 43] (by decide +kernel) (by decide +kernel)
set_option maxRecDepth 20000 in
theorem gX8_rock_X8_spent : GoodIn wsX8_rock (wsV RX8 105 RX8 yX8_spent wsX8_spent) := goodIn_app (goodIn_of _ (by decide +kernel)) ggX8_rock_X8_spent
theorem dX8_rock_0 : decode cX8_rock 0 = .ok (.aload_n 0, 1) := by decide +kernel
theorem dX8_rock_1 : decode cX8_rock 1 = .ok (.iconst 0, 1) := by decide +kernel
theorem dX8_rock_2 : decode cX8_rock 2 = .ok (.putfield 47, 3) := by decide +kernel
theorem dX8_rock_5 : decode cX8_rock 5 = .ok (.iload_n 1, 1) := by decide +kernel
theorem dX8_rock_6 : decode cX8_rock 6 = .ok (.iload_n 2, 1) := by decide +kernel
theorem dX8_rock_7 : decode cX8_rock 7 = .ok (.invokestatic 86, 3) := by decide +kernel
theorem dX8_rock_10 : decode cX8_rock 10 = .ok (.ifCond .ne 9, 3) := by decide +kernel
theorem dX8_rock_13 : decode cX8_rock 13 = .ok (.aload_n 0, 1) := by decide +kernel
theorem dX8_rock_14 : decode cX8_rock 14 = .ok (.iconst 1, 1) := by decide +kernel
theorem dX8_rock_15 : decode cX8_rock 15 = .ok (.invokevirtual 99, 3) := by decide +kernel
theorem dX8_rock_18 : decode cX8_rock 18 = .ok (.ireturn, 1) := by decide +kernel
theorem dX8_rock_19 : decode cX8_rock 19 = .ok (.iload_n 3, 1) := by decide +kernel
theorem dX8_rock_20 : decode cX8_rock 20 = .ok (.iconst 0, 1) := by decide +kernel
theorem dX8_rock_21 : decode cX8_rock 21 = .ok (.iconst 5, 1) := by decide +kernel
theorem dX8_rock_22 : decode cX8_rock 22 = .ok (.invokestatic 51, 3) := by decide +kernel
theorem dX8_rock_25 : decode cX8_rock 25 = .ok (.ifCond .eq 14, 3) := by decide +kernel
theorem dX8_rock_28 : decode cX8_rock 28 = .ok (.iload 4, 2) := by decide +kernel
theorem dX8_rock_30 : decode cX8_rock 30 = .ok (.iconst 1, 1) := by decide +kernel
theorem dX8_rock_31 : decode cX8_rock 31 = .ok (.bipush 9, 2) := by decide +kernel
theorem dX8_rock_33 : decode cX8_rock 33 = .ok (.invokestatic 51, 3) := by decide +kernel
theorem dX8_rock_36 : decode cX8_rock 36 = .ok (.ifCond .ne 9, 3) := by decide +kernel
theorem dX8_rock_39 : decode cX8_rock 39 = .ok (.aload_n 0, 1) := by decide +kernel
theorem dX8_rock_40 : decode cX8_rock 40 = .ok (.iconst 2, 1) := by decide +kernel
theorem dX8_rock_41 : decode cX8_rock 41 = .ok (.invokevirtual 99, 3) := by decide +kernel
theorem dX8_rock_44 : decode cX8_rock 44 = .ok (.ireturn, 1) := by decide +kernel
theorem dX8_rock_45 : decode cX8_rock 45 = .ok (.aload_n 0, 1) := by decide +kernel
theorem dX8_rock_46 : decode cX8_rock 46 = .ok (.iload_n 1, 1) := by decide +kernel
theorem dX8_rock_47 : decode cX8_rock 47 = .ok (.iload_n 2, 1) := by decide +kernel
theorem dX8_rock_48 : decode cX8_rock 48 = .ok (.iconst 2, 1) := by decide +kernel
theorem dX8_rock_49 : decode cX8_rock 49 = .ok (.iload 4, 2) := by decide +kernel
theorem dX8_rock_51 : decode cX8_rock 51 = .ok (.imul, 1) := by decide +kernel
theorem dX8_rock_52 : decode cX8_rock 52 = .ok (.invokevirtual 102, 3) := by decide +kernel
theorem dX8_rock_55 : decode cX8_rock 55 = .ok (.ifCond .ne 9, 3) := by decide +kernel
theorem dX8_rock_58 : decode cX8_rock 58 = .ok (.aload_n 0, 1) := by decide +kernel
theorem dX8_rock_59 : decode cX8_rock 59 = .ok (.iconst 3, 1) := by decide +kernel
theorem dX8_rock_60 : decode cX8_rock 60 = .ok (.invokevirtual 99, 3) := by decide +kernel
theorem dX8_rock_63 : decode cX8_rock 63 = .ok (.ireturn, 1) := by decide +kernel
theorem dX8_rock_64 : decode cX8_rock 64 = .ok (.aload_n 0, 1) := by decide +kernel
theorem dX8_rock_65 : decode cX8_rock 65 = .ok (.getfield 13, 3) := by decide +kernel
theorem dX8_rock_68 : decode cX8_rock 68 = .ok (.bipush 10, 2) := by decide +kernel
theorem dX8_rock_70 : decode cX8_rock 70 = .ok (.iload_n 2, 1) := by decide +kernel
theorem dX8_rock_71 : decode cX8_rock 71 = .ok (.imul, 1) := by decide +kernel
theorem dX8_rock_72 : decode cX8_rock 72 = .ok (.iload_n 1, 1) := by decide +kernel
theorem dX8_rock_73 : decode cX8_rock 73 = .ok (.iadd, 1) := by decide +kernel
theorem dX8_rock_74 : decode cX8_rock 74 = .ok (.iload_n 3, 1) := by decide +kernel
theorem dX8_rock_75 : decode cX8_rock 75 = .ok (.iastore, 1) := by decide +kernel
theorem dX8_rock_76 : decode cX8_rock 76 = .ok (.aload_n 0, 1) := by decide +kernel
theorem dX8_rock_77 : decode cX8_rock 77 = .ok (.getfield 16, 3) := by decide +kernel
theorem dX8_rock_80 : decode cX8_rock 80 = .ok (.bipush 10, 2) := by decide +kernel
theorem dX8_rock_82 : decode cX8_rock 82 = .ok (.iload_n 2, 1) := by decide +kernel
theorem dX8_rock_83 : decode cX8_rock 83 = .ok (.imul, 1) := by decide +kernel
theorem dX8_rock_84 : decode cX8_rock 84 = .ok (.iload_n 1, 1) := by decide +kernel
theorem dX8_rock_85 : decode cX8_rock 85 = .ok (.iadd, 1) := by decide +kernel
theorem dX8_rock_86 : decode cX8_rock 86 = .ok (.iload 4, 2) := by decide +kernel
theorem dX8_rock_88 : decode cX8_rock 88 = .ok (.iastore, 1) := by decide +kernel
theorem dX8_rock_89 : decode cX8_rock 89 = .ok (.aload_n 0, 1) := by decide +kernel
theorem dX8_rock_90 : decode cX8_rock 90 = .ok (.iload_n 1, 1) := by decide +kernel
theorem dX8_rock_91 : decode cX8_rock 91 = .ok (.iload_n 2, 1) := by decide +kernel
theorem dX8_rock_92 : decode cX8_rock 92 = .ok (.iconst 1, 1) := by decide +kernel
theorem dX8_rock_93 : decode cX8_rock 93 = .ok (.iconst 2, 1) := by decide +kernel
theorem dX8_rock_94 : decode cX8_rock 94 = .ok (.iload 4, 2) := by decide +kernel
theorem dX8_rock_96 : decode cX8_rock 96 = .ok (.imul, 1) := by decide +kernel
theorem dX8_rock_97 : decode cX8_rock 97 = .ok (.invokevirtual 105, 3) := by decide +kernel
theorem dX8_rock_100 : decode cX8_rock 100 = .ok (.ireturn, 1) := by decide +kernel
set_option maxRecDepth 20000 in
theorem ggX8_dig_X8_isCell : GoodIn wsX8_dig wsX8_isCell := goodIn_r _ [6, 7, 8, 5, 9] (by decide +kernel) (by decide +kernel)
set_option maxRecDepth 20000 in
theorem gX8_dig_X8_isCell : GoodIn wsX8_dig (va_wsS RX8 86 yX8_isCell wsX8_isCell) := goodIn_app (goodIn_of _ (by decide +kernel)) ggX8_dig_X8_isCell
set_option maxRecDepth 20000 in
theorem ggX8_dig_X8_no : GoodIn wsX8_dig wsX8_no := goodIn_r _ [13, 1, 39, 40, 41, 42, 43, 44, 45, 46, 47, 48, 49, 50, 51, 52, 53] (by decide +kernel) (by decide +kernel)
set_option maxRecDepth 20000 in
theorem gX8_dig_X8_no : GoodIn wsX8_dig (wsV RX8 99 RX8 yX8_no wsX8_no) := goodIn_app (goodIn_of _ (by decide +kernel)) ggX8_dig_X8_no
set_option maxRecDepth 20000 in
theorem ggX8_dig_X8_canBuild : GoodIn wsX8_dig wsX8_canBuild := goodIn_r _ [17, 18, 19, 39, 40, 41, 42, 43, 44, 45, 46, 47, 48, 49, 50, 51, 52, 53, 54, 55, 56, 57] (by decide +kernel) (by decide +kernel)
set_option maxRecDepth 20000 in
theorem gX8_dig_X8_canBuild : GoodIn wsX8_dig (wsV RX8 102 RX8 yX8_canBuild wsX8_canBuild) := goodIn_app (goodIn_of _ (by decide +kernel)) ggX8_dig_X8_canBuild
set_option maxRecDepth 20000 in
theorem ggX8_dig_X8_spent : GoodIn wsX8_dig wsX8_spent := goodIn_r _ [23, 18, 19, 39, 40, 41, 42, 43, 44, 45, 46, 47, 48, 49, 50, 51, 52, 53, 54, 55, 56, 57] (by decide +kernel) (by decide +kernel)
set_option maxRecDepth 20000 in
theorem gX8_dig_X8_spent : GoodIn wsX8_dig (wsV RX8 105 RX8 yX8_spent wsX8_spent) := goodIn_app (goodIn_of _ (by decide +kernel)) ggX8_dig_X8_spent
set_option maxRecDepth 20000 in
theorem ggX8_dig_X8_markPonds : GoodIn wsX8_dig wsX8_markPonds := goodIn_r _ [27, 2, 18, 28, 29, 5, 30, 31, 32, 33, 34, 39, 40, 41, 42, 43, 44, 45, 46, 47, 48, 49, 50, 51, 52, 53] (by decide +kernel) (by decide +kernel)
set_option maxRecDepth 20000 in
theorem gX8_dig_X8_markPonds : GoodIn wsX8_dig (wsV RX8 109 RX8 yX8_markPonds wsX8_markPonds) := goodIn_app (goodIn_of _ (by decide +kernel)) ggX8_dig_X8_markPonds
set_option maxRecDepth 20000 in
theorem ggX8_dig_X8_cellsOf : GoodIn wsX8_dig wsX8_cellsOf := goodIn_r _ [38, 2, 39, 40, 41, 42, 43, 44, 45, 46, 47, 48, 49, 50, 51, 52, 53] (by decide +kernel) (by decide +kernel)
set_option maxRecDepth 20000 in
theorem gX8_dig_X8_cellsOf : GoodIn wsX8_dig (wsV RX8 77 RX8 yX8_cellsOf wsX8_cellsOf) := goodIn_app (goodIn_of _ (by decide +kernel)) ggX8_dig_X8_cellsOf
theorem dX8_dig_0 : decode cX8_dig 0 = .ok (.aload_n 0, 1) := by decide +kernel
theorem dX8_dig_1 : decode cX8_dig 1 = .ok (.iconst 0, 1) := by decide +kernel
theorem dX8_dig_2 : decode cX8_dig 2 = .ok (.putfield 47, 3) := by decide +kernel
theorem dX8_dig_5 : decode cX8_dig 5 = .ok (.iload_n 1, 1) := by decide +kernel
theorem dX8_dig_6 : decode cX8_dig 6 = .ok (.iload_n 2, 1) := by decide +kernel
theorem dX8_dig_7 : decode cX8_dig 7 = .ok (.invokestatic 86, 3) := by decide +kernel
theorem dX8_dig_10 : decode cX8_dig 10 = .ok (.ifCond .ne 9, 3) := by decide +kernel
theorem dX8_dig_13 : decode cX8_dig 13 = .ok (.aload_n 0, 1) := by decide +kernel
theorem dX8_dig_14 : decode cX8_dig 14 = .ok (.iconst 1, 1) := by decide +kernel
theorem dX8_dig_15 : decode cX8_dig 15 = .ok (.invokevirtual 99, 3) := by decide +kernel
theorem dX8_dig_18 : decode cX8_dig 18 = .ok (.ireturn, 1) := by decide +kernel
theorem dX8_dig_19 : decode cX8_dig 19 = .ok (.aload_n 0, 1) := by decide +kernel
theorem dX8_dig_20 : decode cX8_dig 20 = .ok (.iload_n 1, 1) := by decide +kernel
theorem dX8_dig_21 : decode cX8_dig 21 = .ok (.iload_n 2, 1) := by decide +kernel
theorem dX8_dig_22 : decode cX8_dig 22 = .ok (.bipush 6, 2) := by decide +kernel
theorem dX8_dig_24 : decode cX8_dig 24 = .ok (.invokevirtual 102, 3) := by decide +kernel
theorem dX8_dig_27 : decode cX8_dig 27 = .ok (.ifCond .ne 9, 3) := by decide +kernel
theorem dX8_dig_30 : decode cX8_dig 30 = .ok (.aload_n 0, 1) := by decide +kernel
theorem dX8_dig_31 : decode cX8_dig 31 = .ok (.iconst 2, 1) := by decide +kernel
theorem dX8_dig_32 : decode cX8_dig 32 = .ok (.invokevirtual 99, 3) := by decide +kernel
theorem dX8_dig_35 : decode cX8_dig 35 = .ok (.ireturn, 1) := by decide +kernel
theorem dX8_dig_36 : decode cX8_dig 36 = .ok (.aload_n 0, 1) := by decide +kernel
theorem dX8_dig_37 : decode cX8_dig 37 = .ok (.iload_n 1, 1) := by decide +kernel
theorem dX8_dig_38 : decode cX8_dig 38 = .ok (.iload_n 2, 1) := by decide +kernel
theorem dX8_dig_39 : decode cX8_dig 39 = .ok (.iconst 2, 1) := by decide +kernel
theorem dX8_dig_40 : decode cX8_dig 40 = .ok (.bipush 6, 2) := by decide +kernel
theorem dX8_dig_42 : decode cX8_dig 42 = .ok (.invokevirtual 105, 3) := by decide +kernel
theorem dX8_dig_45 : decode cX8_dig 45 = .ok (.pop, 1) := by decide +kernel
theorem dX8_dig_46 : decode cX8_dig 46 = .ok (.aload_n 0, 1) := by decide +kernel
theorem dX8_dig_47 : decode cX8_dig 47 = .ok (.invokevirtual 109, 3) := by decide +kernel
theorem dX8_dig_50 : decode cX8_dig 50 = .ok (.aload_n 0, 1) := by decide +kernel
theorem dX8_dig_51 : decode cX8_dig 51 = .ok (.aload_n 0, 1) := by decide +kernel
theorem dX8_dig_52 : decode cX8_dig 52 = .ok (.getfield 19, 3) := by decide +kernel
theorem dX8_dig_55 : decode cX8_dig 55 = .ok (.bipush 10, 2) := by decide +kernel
theorem dX8_dig_57 : decode cX8_dig 57 = .ok (.iload_n 2, 1) := by decide +kernel
theorem dX8_dig_58 : decode cX8_dig 58 = .ok (.imul, 1) := by decide +kernel
theorem dX8_dig_59 : decode cX8_dig 59 = .ok (.iload_n 1, 1) := by decide +kernel
theorem dX8_dig_60 : decode cX8_dig 60 = .ok (.iadd, 1) := by decide +kernel
theorem dX8_dig_61 : decode cX8_dig 61 = .ok (.iaload, 1) := by decide +kernel
theorem dX8_dig_62 : decode cX8_dig 62 = .ok (.invokevirtual 77, 3) := by decide +kernel
theorem dX8_dig_65 : decode cX8_dig 65 = .ok (.ireturn, 1) := by decide +kernel
set_option maxRecDepth 20000 in
theorem ggX8_wall_X8_isCell : GoodIn wsX8_wall wsX8_isCell := goodIn_r _ [5, 6, 7, 4, 8] (by decide +kernel) (by decide +kernel)
set_option maxRecDepth 20000 in
theorem gX8_wall_X8_isCell : GoodIn wsX8_wall (va_wsS RX8 86 yX8_isCell wsX8_isCell) := goodIn_app (goodIn_of _ (by decide +kernel)) ggX8_wall_X8_isCell
set_option maxRecDepth 20000 in
theorem ggX8_wall_X8_no : GoodIn wsX8_wall wsX8_no := goodIn_r _ [12, 1, 23, 24, 25, 26, 27, 28, 29, 30, 31, 32, 33, 34, 35, 36, 37] (by decide +kernel) (by decide +kernel)
set_option maxRecDepth 20000 in
theorem gX8_wall_X8_no : GoodIn wsX8_wall (wsV RX8 99 RX8 yX8_no wsX8_no) := goodIn_app (goodIn_of _ (by decide +kernel)) ggX8_wall_X8_no
set_option maxRecDepth 20000 in
theorem ggX8_wall_X8_canBuild : GoodIn wsX8_wall wsX8_canBuild := goodIn_r _ [16, 17, 18, 23, 24, 25, 26, 27, 28, 29, 30, 31, 32, 33, 34, 35, 36, 37, 38, 39, 40, 41] (by decide +kernel) (by decide +kernel)
set_option maxRecDepth 20000 in
theorem gX8_wall_X8_canBuild : GoodIn wsX8_wall (wsV RX8 102 RX8 yX8_canBuild wsX8_canBuild) := goodIn_app (goodIn_of _ (by decide +kernel)) ggX8_wall_X8_canBuild
set_option maxRecDepth 20000 in
theorem ggX8_wall_X8_spent : GoodIn wsX8_wall wsX8_spent := goodIn_r _ [22, 17, 18, 23, 24, 25, 26, 27, 28, 29, 30, 31, 32, 33, 34, 35, 36, 37, 38, 39, 40, 41] (by decide +kernel) (by decide +kernel)
set_option maxRecDepth 20000 in
theorem gX8_wall_X8_spent : GoodIn wsX8_wall (wsV RX8 105 RX8 yX8_spent wsX8_spent) := goodIn_app (goodIn_of _ (by decide +kernel)) ggX8_wall_X8_spent
theorem dX8_wall_0 : decode cX8_wall 0 = .ok (.aload_n 0, 1) := by decide +kernel
theorem dX8_wall_1 : decode cX8_wall 1 = .ok (.iconst 0, 1) := by decide +kernel
theorem dX8_wall_2 : decode cX8_wall 2 = .ok (.putfield 47, 3) := by decide +kernel
theorem dX8_wall_5 : decode cX8_wall 5 = .ok (.iload_n 1, 1) := by decide +kernel
theorem dX8_wall_6 : decode cX8_wall 6 = .ok (.iload_n 2, 1) := by decide +kernel
theorem dX8_wall_7 : decode cX8_wall 7 = .ok (.invokestatic 86, 3) := by decide +kernel
theorem dX8_wall_10 : decode cX8_wall 10 = .ok (.ifCond .ne 9, 3) := by decide +kernel
theorem dX8_wall_13 : decode cX8_wall 13 = .ok (.aload_n 0, 1) := by decide +kernel
theorem dX8_wall_14 : decode cX8_wall 14 = .ok (.iconst 1, 1) := by decide +kernel
theorem dX8_wall_15 : decode cX8_wall 15 = .ok (.invokevirtual 99, 3) := by decide +kernel
theorem dX8_wall_18 : decode cX8_wall 18 = .ok (.ireturn, 1) := by decide +kernel
theorem dX8_wall_19 : decode cX8_wall 19 = .ok (.aload_n 0, 1) := by decide +kernel
theorem dX8_wall_20 : decode cX8_wall 20 = .ok (.iload_n 1, 1) := by decide +kernel
theorem dX8_wall_21 : decode cX8_wall 21 = .ok (.iload_n 2, 1) := by decide +kernel
theorem dX8_wall_22 : decode cX8_wall 22 = .ok (.iconst 3, 1) := by decide +kernel
theorem dX8_wall_23 : decode cX8_wall 23 = .ok (.invokevirtual 102, 3) := by decide +kernel
theorem dX8_wall_26 : decode cX8_wall 26 = .ok (.ifCond .eq 14, 3) := by decide +kernel
theorem dX8_wall_29 : decode cX8_wall 29 = .ok (.aload_n 0, 1) := by decide +kernel
theorem dX8_wall_30 : decode cX8_wall 30 = .ok (.iload_n 1, 1) := by decide +kernel
theorem dX8_wall_31 : decode cX8_wall 31 = .ok (.iload_n 2, 1) := by decide +kernel
theorem dX8_wall_32 : decode cX8_wall 32 = .ok (.iconst 3, 1) := by decide +kernel
theorem dX8_wall_33 : decode cX8_wall 33 = .ok (.iconst 3, 1) := by decide +kernel
theorem dX8_wall_34 : decode cX8_wall 34 = .ok (.invokevirtual 105, 3) := by decide +kernel
theorem dX8_wall_37 : decode cX8_wall 37 = .ok (.goto 8, 3) := by decide +kernel
theorem dX8_wall_40 : decode cX8_wall 40 = .ok (.aload_n 0, 1) := by decide +kernel
theorem dX8_wall_41 : decode cX8_wall 41 = .ok (.iconst 2, 1) := by decide +kernel
theorem dX8_wall_42 : decode cX8_wall 42 = .ok (.invokevirtual 99, 3) := by decide +kernel
theorem dX8_wall_45 : decode cX8_wall 45 = .ok (.ireturn, 1) := by decide +kernel
set_option maxRecDepth 20000 in
theorem ggX8_clear_X8_isCell : GoodIn wsX8_clear wsX8_isCell := goodIn_r _ [10, 11, 12, 9, 13] (by decide +kernel) (by decide +kernel)
set_option maxRecDepth 20000 in
theorem gX8_clear_X8_isCell : GoodIn wsX8_clear (va_wsS RX8 86 yX8_isCell wsX8_isCell) := goodIn_app (goodIn_of _ (by decide +kernel)) ggX8_clear_X8_isCell
set_option maxRecDepth 20000 in
theorem ggX8_clear_X8_no : GoodIn wsX8_clear wsX8_no := goodIn_r _ [17, 1, 23, 24, 25, 26, 27, 28, 29, 30, 31, 32, 33, 34, 35, 36, 37] (by decide +kernel) (by decide +kernel)
set_option maxRecDepth 20000 in
theorem gX8_clear_X8_no : GoodIn wsX8_clear (wsV RX8 99 RX8 yX8_no wsX8_no) := goodIn_app (goodIn_of _ (by decide +kernel)) ggX8_clear_X8_no
set_option maxRecDepth 20000 in
theorem ggX8_clear_X8_spent : GoodIn wsX8_clear wsX8_spent := goodIn_r _ [21, 2, 22, 23, 24, 25, 26, 27, 28, 29, 30, 31, 32, 33, 34, 35, 36, 37, 38, 39, 40, 41] (by decide +kernel) (by decide +kernel)
set_option maxRecDepth 20000 in
theorem gX8_clear_X8_spent : GoodIn wsX8_clear (wsV RX8 105 RX8 yX8_spent wsX8_spent) := goodIn_app (goodIn_of _ (by decide +kernel)) ggX8_clear_X8_spent
theorem dX8_clear_0 : decode cX8_clear 0 = .ok (.aload_n 0, 1) := by decide +kernel
theorem dX8_clear_1 : decode cX8_clear 1 = .ok (.iconst 0, 1) := by decide +kernel
theorem dX8_clear_2 : decode cX8_clear 2 = .ok (.putfield 47, 3) := by decide +kernel
theorem dX8_clear_5 : decode cX8_clear 5 = .ok (.iload_n 1, 1) := by decide +kernel
theorem dX8_clear_6 : decode cX8_clear 6 = .ok (.iload_n 2, 1) := by decide +kernel
theorem dX8_clear_7 : decode cX8_clear 7 = .ok (.invokestatic 86, 3) := by decide +kernel
theorem dX8_clear_10 : decode cX8_clear 10 = .ok (.ifCond .ne 9, 3) := by decide +kernel
theorem dX8_clear_13 : decode cX8_clear 13 = .ok (.aload_n 0, 1) := by decide +kernel
theorem dX8_clear_14 : decode cX8_clear 14 = .ok (.iconst 1, 1) := by decide +kernel
theorem dX8_clear_15 : decode cX8_clear 15 = .ok (.invokevirtual 99, 3) := by decide +kernel
theorem dX8_clear_18 : decode cX8_clear 18 = .ok (.ireturn, 1) := by decide +kernel
theorem dX8_clear_19 : decode cX8_clear 19 = .ok (.bipush 10, 2) := by decide +kernel
theorem dX8_clear_21 : decode cX8_clear 21 = .ok (.iload_n 2, 1) := by decide +kernel
theorem dX8_clear_22 : decode cX8_clear 22 = .ok (.imul, 1) := by decide +kernel
theorem dX8_clear_23 : decode cX8_clear 23 = .ok (.iload_n 1, 1) := by decide +kernel
theorem dX8_clear_24 : decode cX8_clear 24 = .ok (.iadd, 1) := by decide +kernel
theorem dX8_clear_25 : decode cX8_clear 25 = .ok (.istore_n 3, 1) := by decide +kernel
theorem dX8_clear_26 : decode cX8_clear 26 = .ok (.aload_n 0, 1) := by decide +kernel
theorem dX8_clear_27 : decode cX8_clear 27 = .ok (.getfield 9, 3) := by decide +kernel
theorem dX8_clear_30 : decode cX8_clear 30 = .ok (.iload_n 3, 1) := by decide +kernel
theorem dX8_clear_31 : decode cX8_clear 31 = .ok (.iaload, 1) := by decide +kernel
theorem dX8_clear_32 : decode cX8_clear 32 = .ok (.ifCond .eq 7, 3) := by decide +kernel
theorem dX8_clear_35 : decode cX8_clear 35 = .ok (.iconst 1, 1) := by decide +kernel
theorem dX8_clear_36 : decode cX8_clear 36 = .ok (.goto 4, 3) := by decide +kernel
theorem dX8_clear_39 : decode cX8_clear 39 = .ok (.iconst 0, 1) := by decide +kernel
theorem dX8_clear_40 : decode cX8_clear 40 = .ok (.istore 4, 2) := by decide +kernel
theorem dX8_clear_42 : decode cX8_clear 42 = .ok (.iconst 0, 1) := by decide +kernel
theorem dX8_clear_43 : decode cX8_clear 43 = .ok (.istore 5, 2) := by decide +kernel
theorem dX8_clear_45 : decode cX8_clear 45 = .ok (.iload 5, 2) := by decide +kernel
theorem dX8_clear_47 : decode cX8_clear 47 = .ok (.aload_n 0, 1) := by decide +kernel
theorem dX8_clear_48 : decode cX8_clear 48 = .ok (.getfield 71, 3) := by decide +kernel
theorem dX8_clear_51 : decode cX8_clear 51 = .ok (.if_icmp .ge 41, 3) := by decide +kernel
theorem dX8_clear_54 : decode cX8_clear 54 = .ok (.iload 4, 2) := by decide +kernel
theorem dX8_clear_56 : decode cX8_clear 56 = .ok (.aload_n 0, 1) := by decide +kernel
theorem dX8_clear_57 : decode cX8_clear 57 = .ok (.getfield 25, 3) := by decide +kernel
theorem dX8_clear_60 : decode cX8_clear 60 = .ok (.iload 5, 2) := by decide +kernel
theorem dX8_clear_62 : decode cX8_clear 62 = .ok (.iaload, 1) := by decide +kernel
theorem dX8_clear_63 : decode cX8_clear 63 = .ok (.iconst 1, 1) := by decide +kernel
theorem dX8_clear_64 : decode cX8_clear 64 = .ok (.if_icmp .eq 14, 3) := by decide +kernel
theorem dX8_clear_67 : decode cX8_clear 67 = .ok (.aload_n 0, 1) := by decide +kernel
theorem dX8_clear_68 : decode cX8_clear 68 = .ok (.getfield 22, 3) := by decide +kernel
theorem dX8_clear_71 : decode cX8_clear 71 = .ok (.iload 5, 2) := by decide +kernel
theorem dX8_clear_73 : decode cX8_clear 73 = .ok (.iaload, 1) := by decide +kernel
theorem dX8_clear_74 : decode cX8_clear 74 = .ok (.iload_n 3, 1) := by decide +kernel
theorem dX8_clear_75 : decode cX8_clear 75 = .ok (.if_icmp .eq 7, 3) := by decide +kernel
theorem dX8_clear_78 : decode cX8_clear 78 = .ok (.iconst 1, 1) := by decide +kernel
theorem dX8_clear_79 : decode cX8_clear 79 = .ok (.goto 4, 3) := by decide +kernel
theorem dX8_clear_82 : decode cX8_clear 82 = .ok (.iconst 0, 1) := by decide +kernel
theorem dX8_clear_83 : decode cX8_clear 83 = .ok (.iand, 1) := by decide +kernel
theorem dX8_clear_84 : decode cX8_clear 84 = .ok (.istore 4, 2) := by decide +kernel
theorem dX8_clear_86 : decode cX8_clear 86 = .ok (.iinc 5 1, 3) := by decide +kernel
theorem dX8_clear_89 : decode cX8_clear 89 = .ok (.goto (-44), 3) := by decide +kernel
theorem dX8_clear_92 : decode cX8_clear 92 = .ok (.iload 4, 2) := by decide +kernel
theorem dX8_clear_94 : decode cX8_clear 94 = .ok (.ifCond .ne 9, 3) := by decide +kernel
theorem dX8_clear_97 : decode cX8_clear 97 = .ok (.aload_n 0, 1) := by decide +kernel
theorem dX8_clear_98 : decode cX8_clear 98 = .ok (.iconst 2, 1) := by decide +kernel
theorem dX8_clear_99 : decode cX8_clear 99 = .ok (.invokevirtual 99, 3) := by decide +kernel
theorem dX8_clear_102 : decode cX8_clear 102 = .ok (.ireturn, 1) := by decide +kernel
theorem dX8_clear_103 : decode cX8_clear 103 = .ok (.aload_n 0, 1) := by decide +kernel
theorem dX8_clear_104 : decode cX8_clear 104 = .ok (.iload_n 1, 1) := by decide +kernel
theorem dX8_clear_105 : decode cX8_clear 105 = .ok (.iload_n 2, 1) := by decide +kernel
theorem dX8_clear_106 : decode cX8_clear 106 = .ok (.iconst 0, 1) := by decide +kernel
theorem dX8_clear_107 : decode cX8_clear 107 = .ok (.aload_n 0, 1) := by decide +kernel
theorem dX8_clear_108 : decode cX8_clear 108 = .ok (.getfield 9, 3) := by decide +kernel
theorem dX8_clear_111 : decode cX8_clear 111 = .ok (.iload_n 3, 1) := by decide +kernel
theorem dX8_clear_112 : decode cX8_clear 112 = .ok (.iaload, 1) := by decide +kernel
theorem dX8_clear_113 : decode cX8_clear 113 = .ok (.iconst 1, 1) := by decide +kernel
theorem dX8_clear_114 : decode cX8_clear 114 = .ok (.if_icmp .ne 13, 3) := by decide +kernel
theorem dX8_clear_117 : decode cX8_clear 117 = .ok (.aload_n 0, 1) := by decide +kernel
theorem dX8_clear_118 : decode cX8_clear 118 = .ok (.getfield 16, 3) := by decide +kernel
theorem dX8_clear_121 : decode cX8_clear 121 = .ok (.iload_n 3, 1) := by decide +kernel
theorem dX8_clear_122 : decode cX8_clear 122 = .ok (.iaload, 1) := by decide +kernel
theorem dX8_clear_123 : decode cX8_clear 123 = .ok (.ineg, 1) := by decide +kernel
theorem dX8_clear_124 : decode cX8_clear 124 = .ok (.goto 4, 3) := by decide +kernel
theorem dX8_clear_127 : decode cX8_clear 127 = .ok (.iconst 0, 1) := by decide +kernel
theorem dX8_clear_128 : decode cX8_clear 128 = .ok (.invokevirtual 105, 3) := by decide +kernel
theorem dX8_clear_131 : decode cX8_clear 131 = .ok (.ireturn, 1) := by decide +kernel
set_option maxRecDepth 20000 in
theorem ggX8_cellTold_X8_cellsOf : GoodIn wsX8_cellTold wsX8_cellsOf := goodIn_r _ [10, 5, 18, 19, 20, 21, 22, 23, 24, 25, 26, 27, 28, 29, 30, 31, 32] (by decide +kernel) (by decide +kernel)
set_option maxRecDepth 20000 in
theorem gX8_cellTold_X8_cellsOf : GoodIn wsX8_cellTold (wsV RX8 77 RX8 yX8_cellsOf wsX8_cellsOf) := goodIn_app (goodIn_of _ (by decide +kernel)) ggX8_cellTold_X8_cellsOf
set_option maxRecDepth 20000 in
theorem ggX8_cellTold_X8_carpsOf : GoodIn wsX8_cellTold wsX8_carpsOf := goodIn_r _ [14, 15, 16, 5, 17, 18, 19, 20, 21, 22, 23, 24, 25, 26, 27, 28, 29, 30, 31, 32] (by decide +kernel) (by decide +kernel)
set_option maxRecDepth 20000 in
theorem gX8_cellTold_X8_carpsOf : GoodIn wsX8_cellTold (wsV RX8 74 RX8 yX8_carpsOf wsX8_carpsOf) := goodIn_app (goodIn_of _ (by decide +kernel)) ggX8_cellTold_X8_carpsOf
theorem dX8_cellTold_0 : decode cX8_cellTold 0 = .ok (.aload_n 0, 1) := by decide +kernel
theorem dX8_cellTold_1 : decode cX8_cellTold 1 = .ok (.getfield 9, 3) := by decide +kernel
theorem dX8_cellTold_4 : decode cX8_cellTold 4 = .ok (.iload_n 1, 1) := by decide +kernel
theorem dX8_cellTold_5 : decode cX8_cellTold 5 = .ok (.iaload, 1) := by decide +kernel
theorem dX8_cellTold_6 : decode cX8_cellTold 6 = .ok (.iconst 1, 1) := by decide +kernel
theorem dX8_cellTold_7 : decode cX8_cellTold 7 = .ok (.if_icmp .ne 7, 3) := by decide +kernel
theorem dX8_cellTold_10 : decode cX8_cellTold 10 = .ok (.iconst 1, 1) := by decide +kernel
theorem dX8_cellTold_11 : decode cX8_cellTold 11 = .ok (.goto 4, 3) := by decide +kernel
theorem dX8_cellTold_14 : decode cX8_cellTold 14 = .ok (.iconst 0, 1) := by decide +kernel
theorem dX8_cellTold_15 : decode cX8_cellTold 15 = .ok (.istore_n 3, 1) := by decide +kernel
theorem dX8_cellTold_16 : decode cX8_cellTold 16 = .ok (.aload_n 0, 1) := by decide +kernel
theorem dX8_cellTold_17 : decode cX8_cellTold 17 = .ok (.getfield 9, 3) := by decide +kernel
theorem dX8_cellTold_20 : decode cX8_cellTold 20 = .ok (.iload_n 1, 1) := by decide +kernel
theorem dX8_cellTold_21 : decode cX8_cellTold 21 = .ok (.iaload, 1) := by decide +kernel
theorem dX8_cellTold_22 : decode cX8_cellTold 22 = .ok (.iconst 2, 1) := by decide +kernel
theorem dX8_cellTold_23 : decode cX8_cellTold 23 = .ok (.if_icmp .ne 7, 3) := by decide +kernel
theorem dX8_cellTold_26 : decode cX8_cellTold 26 = .ok (.iconst 1, 1) := by decide +kernel
theorem dX8_cellTold_27 : decode cX8_cellTold 27 = .ok (.goto 4, 3) := by decide +kernel
theorem dX8_cellTold_30 : decode cX8_cellTold 30 = .ok (.iconst 0, 1) := by decide +kernel
theorem dX8_cellTold_31 : decode cX8_cellTold 31 = .ok (.istore 4, 2) := by decide +kernel
theorem dX8_cellTold_33 : decode cX8_cellTold 33 = .ok (.iconst 5, 1) := by decide +kernel
theorem dX8_cellTold_34 : decode cX8_cellTold 34 = .ok (.newarray .int, 2) := by decide +kernel
theorem dX8_cellTold_36 : decode cX8_cellTold 36 = .ok (.dup, 1) := by decide +kernel
theorem dX8_cellTold_37 : decode cX8_cellTold 37 = .ok (.iconst 0, 1) := by decide +kernel
theorem dX8_cellTold_38 : decode cX8_cellTold 38 = .ok (.aload_n 0, 1) := by decide +kernel
theorem dX8_cellTold_39 : decode cX8_cellTold 39 = .ok (.getfield 9, 3) := by decide +kernel
theorem dX8_cellTold_42 : decode cX8_cellTold 42 = .ok (.iload_n 1, 1) := by decide +kernel
theorem dX8_cellTold_43 : decode cX8_cellTold 43 = .ok (.iaload, 1) := by decide +kernel
theorem dX8_cellTold_44 : decode cX8_cellTold 44 = .ok (.iastore, 1) := by decide +kernel
theorem dX8_cellTold_45 : decode cX8_cellTold 45 = .ok (.dup, 1) := by decide +kernel
theorem dX8_cellTold_46 : decode cX8_cellTold 46 = .ok (.iconst 1, 1) := by decide +kernel
theorem dX8_cellTold_47 : decode cX8_cellTold 47 = .ok (.iload_n 3, 1) := by decide +kernel
theorem dX8_cellTold_48 : decode cX8_cellTold 48 = .ok (.ifCond .eq 12, 3) := by decide +kernel
theorem dX8_cellTold_51 : decode cX8_cellTold 51 = .ok (.aload_n 0, 1) := by decide +kernel
theorem dX8_cellTold_52 : decode cX8_cellTold 52 = .ok (.getfield 13, 3) := by decide +kernel
theorem dX8_cellTold_55 : decode cX8_cellTold 55 = .ok (.iload_n 1, 1) := by decide +kernel
theorem dX8_cellTold_56 : decode cX8_cellTold 56 = .ok (.iaload, 1) := by decide +kernel
theorem dX8_cellTold_57 : decode cX8_cellTold 57 = .ok (.goto 4, 3) := by decide +kernel
theorem dX8_cellTold_60 : decode cX8_cellTold 60 = .ok (.iconst (-1), 1) := by decide +kernel
theorem dX8_cellTold_61 : decode cX8_cellTold 61 = .ok (.iastore, 1) := by decide +kernel
theorem dX8_cellTold_62 : decode cX8_cellTold 62 = .ok (.dup, 1) := by decide +kernel
theorem dX8_cellTold_63 : decode cX8_cellTold 63 = .ok (.iconst 2, 1) := by decide +kernel
theorem dX8_cellTold_64 : decode cX8_cellTold 64 = .ok (.iload_n 3, 1) := by decide +kernel
theorem dX8_cellTold_65 : decode cX8_cellTold 65 = .ok (.ifCond .eq 12, 3) := by decide +kernel
theorem dX8_cellTold_68 : decode cX8_cellTold 68 = .ok (.aload_n 0, 1) := by decide +kernel
theorem dX8_cellTold_69 : decode cX8_cellTold 69 = .ok (.getfield 16, 3) := by decide +kernel
theorem dX8_cellTold_72 : decode cX8_cellTold 72 = .ok (.iload_n 1, 1) := by decide +kernel
theorem dX8_cellTold_73 : decode cX8_cellTold 73 = .ok (.iaload, 1) := by decide +kernel
theorem dX8_cellTold_74 : decode cX8_cellTold 74 = .ok (.goto 4, 3) := by decide +kernel
theorem dX8_cellTold_77 : decode cX8_cellTold 77 = .ok (.iconst 0, 1) := by decide +kernel
theorem dX8_cellTold_78 : decode cX8_cellTold 78 = .ok (.iastore, 1) := by decide +kernel
theorem dX8_cellTold_79 : decode cX8_cellTold 79 = .ok (.dup, 1) := by decide +kernel
theorem dX8_cellTold_80 : decode cX8_cellTold 80 = .ok (.iconst 3, 1) := by decide +kernel
theorem dX8_cellTold_81 : decode cX8_cellTold 81 = .ok (.iload 4, 2) := by decide +kernel
theorem dX8_cellTold_83 : decode cX8_cellTold 83 = .ok (.ifCond .eq 16, 3) := by decide +kernel
theorem dX8_cellTold_86 : decode cX8_cellTold 86 = .ok (.aload_n 0, 1) := by decide +kernel
theorem dX8_cellTold_87 : decode cX8_cellTold 87 = .ok (.aload_n 0, 1) := by decide +kernel
theorem dX8_cellTold_88 : decode cX8_cellTold 88 = .ok (.getfield 19, 3) := by decide +kernel
theorem dX8_cellTold_91 : decode cX8_cellTold 91 = .ok (.iload_n 1, 1) := by decide +kernel
theorem dX8_cellTold_92 : decode cX8_cellTold 92 = .ok (.iaload, 1) := by decide +kernel
theorem dX8_cellTold_93 : decode cX8_cellTold 93 = .ok (.invokevirtual 77, 3) := by decide +kernel
theorem dX8_cellTold_96 : decode cX8_cellTold 96 = .ok (.goto 4, 3) := by decide +kernel
theorem dX8_cellTold_99 : decode cX8_cellTold 99 = .ok (.iconst 0, 1) := by decide +kernel
theorem dX8_cellTold_100 : decode cX8_cellTold 100 = .ok (.iastore, 1) := by decide +kernel
theorem dX8_cellTold_101 : decode cX8_cellTold 101 = .ok (.dup, 1) := by decide +kernel
theorem dX8_cellTold_102 : decode cX8_cellTold 102 = .ok (.iconst 4, 1) := by decide +kernel
theorem dX8_cellTold_103 : decode cX8_cellTold 103 = .ok (.iload 4, 2) := by decide +kernel
theorem dX8_cellTold_105 : decode cX8_cellTold 105 = .ok (.ifCond .eq 16, 3) := by decide +kernel
theorem dX8_cellTold_108 : decode cX8_cellTold 108 = .ok (.aload_n 0, 1) := by decide +kernel
theorem dX8_cellTold_109 : decode cX8_cellTold 109 = .ok (.aload_n 0, 1) := by decide +kernel
theorem dX8_cellTold_110 : decode cX8_cellTold 110 = .ok (.getfield 19, 3) := by decide +kernel
theorem dX8_cellTold_113 : decode cX8_cellTold 113 = .ok (.iload_n 1, 1) := by decide +kernel
theorem dX8_cellTold_114 : decode cX8_cellTold 114 = .ok (.iaload, 1) := by decide +kernel
theorem dX8_cellTold_115 : decode cX8_cellTold 115 = .ok (.invokevirtual 74, 3) := by decide +kernel
theorem dX8_cellTold_118 : decode cX8_cellTold 118 = .ok (.goto 4, 3) := by decide +kernel
theorem dX8_cellTold_121 : decode cX8_cellTold 121 = .ok (.iconst 0, 1) := by decide +kernel
theorem dX8_cellTold_122 : decode cX8_cellTold 122 = .ok (.iastore, 1) := by decide +kernel
theorem dX8_cellTold_123 : decode cX8_cellTold 123 = .ok (.astore 5, 2) := by decide +kernel
theorem dX8_cellTold_125 : decode cX8_cellTold 125 = .ok (.aload 5, 2) := by decide +kernel
theorem dX8_cellTold_127 : decode cX8_cellTold 127 = .ok (.iload_n 2, 1) := by decide +kernel
theorem dX8_cellTold_128 : decode cX8_cellTold 128 = .ok (.iaload, 1) := by decide +kernel
theorem dX8_cellTold_129 : decode cX8_cellTold 129 = .ok (.ireturn, 1) := by decide +kernel
set_option maxRecDepth 20000 in
theorem ggX8_cell_X8_isCell : GoodIn wsX8_cell wsX8_isCell := goodIn_r _ [5, 6, 7, 4, 8] (by decide +kernel) (by decide +kernel)
set_option maxRecDepth 20000 in
theorem gX8_cell_X8_isCell : GoodIn wsX8_cell (va_wsS RX8 86 yX8_isCell wsX8_isCell) := goodIn_app (goodIn_of _ (by decide +kernel)) ggX8_cell_X8_isCell
set_option maxRecDepth 20000 in
theorem ggX8_cell_X8_isIn : GoodIn wsX8_cell wsX8_isIn := goodIn_r _ [8] (by decide +kernel) (by decide +kernel)
set_option maxRecDepth 20000 in
theorem gX8_cell_X8_isIn : GoodIn wsX8_cell (va_wsS RX8 51 yX8_isIn wsX8_isIn) := goodIn_app (goodIn_of _ (by decide +kernel)) ggX8_cell_X8_isIn
set_option maxRecDepth 20000 in
theorem ggX8_cell_X8_no : GoodIn wsX8_cell wsX8_no := goodIn_r _ [12, 1, 44, 45, 46, 47, 48, 49, 50, 51, 52, 53, 54, 55, 56, 57, 58] (by decide +kernel) (by decide +kernel)
set_option maxRecDepth 20000 in
theorem gX8_cell_X8_no : GoodIn wsX8_cell (wsV RX8 99 RX8 yX8_no wsX8_no) := goodIn_app (goodIn_of _ (by decide +kernel)) ggX8_cell_X8_no
set_option maxRecDepth 20000 in
theorem ggX8_cell_X8_markPonds : GoodIn wsX8_cell wsX8_markPonds := goodIn_r _ [16, 17, 18, 19, 20, 4, 21, 22, 23, 24, 25, 44, 45, 46, 47, 48, 49, 50, 51, 52, 53, 54, 55, 56, 57, 58] (by decide +kernel) (by decide +kernel)
set_option maxRecDepth 20000 in
theorem gX8_cell_X8_markPonds : GoodIn wsX8_cell (wsV RX8 109 RX8 yX8_markPonds wsX8_markPonds) := goodIn_app (goodIn_of _ (by decide +kernel)) ggX8_cell_X8_markPonds
set_option maxRecDepth 20000 in
theorem ggX8_cell_X8_cellTold : GoodIn wsX8_cell wsX8_cellTold := goodIn_r _ [29, 18, 30, 31, 32, 17, 33, 34, 35, 4, 36, 37, 38, 39, 40, 41, 42, 43, 44, 45, 46, 47, 48, 49, 50, 51, 52, 53, 54, 55, 56, 57, 58] (by decide +kernel) (by decide +kernel)
set_option maxRecDepth 20000 in
theorem gX8_cell_X8_cellTold : GoodIn wsX8_cell (wsV RX8 112 RX8 yX8_cellTold wsX8_cellTold) := goodIn_app (goodIn_of _ (by decide +kernel)) ggX8_cell_X8_cellTold
theorem dX8_cell_0 : decode cX8_cell 0 = .ok (.aload_n 0, 1) := by decide +kernel
theorem dX8_cell_1 : decode cX8_cell 1 = .ok (.iconst 0, 1) := by decide +kernel
theorem dX8_cell_2 : decode cX8_cell 2 = .ok (.putfield 47, 3) := by decide +kernel
theorem dX8_cell_5 : decode cX8_cell 5 = .ok (.iload_n 1, 1) := by decide +kernel
theorem dX8_cell_6 : decode cX8_cell 6 = .ok (.iload_n 2, 1) := by decide +kernel
theorem dX8_cell_7 : decode cX8_cell 7 = .ok (.invokestatic 86, 3) := by decide +kernel
theorem dX8_cell_10 : decode cX8_cell 10 = .ok (.ifCond .eq 12, 3) := by decide +kernel
theorem dX8_cell_13 : decode cX8_cell 13 = .ok (.iload_n 3, 1) := by decide +kernel
theorem dX8_cell_14 : decode cX8_cell 14 = .ok (.iconst 0, 1) := by decide +kernel
theorem dX8_cell_15 : decode cX8_cell 15 = .ok (.iconst 4, 1) := by decide +kernel
theorem dX8_cell_16 : decode cX8_cell 16 = .ok (.invokestatic 51, 3) := by decide +kernel
theorem dX8_cell_19 : decode cX8_cell 19 = .ok (.ifCond .ne 9, 3) := by decide +kernel
theorem dX8_cell_22 : decode cX8_cell 22 = .ok (.aload_n 0, 1) := by decide +kernel
theorem dX8_cell_23 : decode cX8_cell 23 = .ok (.iconst 1, 1) := by decide +kernel
theorem dX8_cell_24 : decode cX8_cell 24 = .ok (.invokevirtual 99, 3) := by decide +kernel
theorem dX8_cell_27 : decode cX8_cell 27 = .ok (.ireturn, 1) := by decide +kernel
theorem dX8_cell_28 : decode cX8_cell 28 = .ok (.aload_n 0, 1) := by decide +kernel
theorem dX8_cell_29 : decode cX8_cell 29 = .ok (.invokevirtual 109, 3) := by decide +kernel
theorem dX8_cell_32 : decode cX8_cell 32 = .ok (.aload_n 0, 1) := by decide +kernel
theorem dX8_cell_33 : decode cX8_cell 33 = .ok (.bipush 10, 2) := by decide +kernel
theorem dX8_cell_35 : decode cX8_cell 35 = .ok (.iload_n 2, 1) := by decide +kernel
theorem dX8_cell_36 : decode cX8_cell 36 = .ok (.imul, 1) := by decide +kernel
theorem dX8_cell_37 : decode cX8_cell 37 = .ok (.iload_n 1, 1) := by decide +kernel
theorem dX8_cell_38 : decode cX8_cell 38 = .ok (.iadd, 1) := by decide +kernel
theorem dX8_cell_39 : decode cX8_cell 39 = .ok (.iload_n 3, 1) := by decide +kernel
theorem dX8_cell_40 : decode cX8_cell 40 = .ok (.invokevirtual 112, 3) := by decide +kernel
theorem dX8_cell_43 : decode cX8_cell 43 = .ok (.ireturn, 1) := by decide +kernel
set_option maxRecDepth 20000 in
theorem ggX8_carp_X8_isCell : GoodIn wsX8_carp wsX8_isCell := goodIn_r _ [9, 10, 11, 8, 12] (by decide +kernel) (by decide +kernel)
set_option maxRecDepth 20000 in
theorem gX8_carp_X8_isCell : GoodIn wsX8_carp (va_wsS RX8 86 yX8_isCell wsX8_isCell) := goodIn_app (goodIn_of _ (by decide +kernel)) ggX8_carp_X8_isCell
set_option maxRecDepth 20000 in
theorem ggX8_carp_X8_no : GoodIn wsX8_carp wsX8_no := goodIn_r _ [16, 1, 17, 18, 19, 20, 21, 22, 23, 24, 25, 26, 27, 28, 29, 30, 31] (by decide +kernel) (by decide +kernel)
set_option maxRecDepth 20000 in
theorem gX8_carp_X8_no : GoodIn wsX8_carp (wsV RX8 99 RX8 yX8_no wsX8_no) := goodIn_app (goodIn_of _ (by decide +kernel)) ggX8_carp_X8_no
theorem dX8_carp_0 : decode cX8_carp 0 = .ok (.aload_n 0, 1) := by decide +kernel
theorem dX8_carp_1 : decode cX8_carp 1 = .ok (.iconst 0, 1) := by decide +kernel
theorem dX8_carp_2 : decode cX8_carp 2 = .ok (.putfield 47, 3) := by decide +kernel
theorem dX8_carp_5 : decode cX8_carp 5 = .ok (.iload_n 1, 1) := by decide +kernel
theorem dX8_carp_6 : decode cX8_carp 6 = .ok (.iload_n 2, 1) := by decide +kernel
theorem dX8_carp_7 : decode cX8_carp 7 = .ok (.invokestatic 86, 3) := by decide +kernel
theorem dX8_carp_10 : decode cX8_carp 10 = .ok (.ifCond .ne 9, 3) := by decide +kernel
theorem dX8_carp_13 : decode cX8_carp 13 = .ok (.aload_n 0, 1) := by decide +kernel
theorem dX8_carp_14 : decode cX8_carp 14 = .ok (.iconst 1, 1) := by decide +kernel
theorem dX8_carp_15 : decode cX8_carp 15 = .ok (.invokevirtual 99, 3) := by decide +kernel
theorem dX8_carp_18 : decode cX8_carp 18 = .ok (.ireturn, 1) := by decide +kernel
theorem dX8_carp_19 : decode cX8_carp 19 = .ok (.aload_n 0, 1) := by decide +kernel
theorem dX8_carp_20 : decode cX8_carp 20 = .ok (.getfield 9, 3) := by decide +kernel
theorem dX8_carp_23 : decode cX8_carp 23 = .ok (.bipush 10, 2) := by decide +kernel
theorem dX8_carp_25 : decode cX8_carp 25 = .ok (.iload_n 2, 1) := by decide +kernel
theorem dX8_carp_26 : decode cX8_carp 26 = .ok (.imul, 1) := by decide +kernel
theorem dX8_carp_27 : decode cX8_carp 27 = .ok (.iload_n 1, 1) := by decide +kernel
theorem dX8_carp_28 : decode cX8_carp 28 = .ok (.iadd, 1) := by decide +kernel
theorem dX8_carp_29 : decode cX8_carp 29 = .ok (.iaload, 1) := by decide +kernel
theorem dX8_carp_30 : decode cX8_carp 30 = .ok (.iconst 2, 1) := by decide +kernel
theorem dX8_carp_31 : decode cX8_carp 31 = .ok (.if_icmp .ne 23, 3) := by decide +kernel
theorem dX8_carp_34 : decode cX8_carp 34 = .ok (.aload_n 0, 1) := by decide +kernel
theorem dX8_carp_35 : decode cX8_carp 35 = .ok (.getfield 40, 3) := by decide +kernel
theorem dX8_carp_38 : decode cX8_carp 38 = .ok (.getfield 96, 3) := by decide +kernel
theorem dX8_carp_41 : decode cX8_carp 41 = .ok (.iconst 4, 1) := by decide +kernel
theorem dX8_carp_42 : decode cX8_carp 42 = .ok (.if_icmp .lt 12, 3) := by decide +kernel
theorem dX8_carp_45 : decode cX8_carp 45 = .ok (.aload_n 0, 1) := by decide +kernel
theorem dX8_carp_46 : decode cX8_carp 46 = .ok (.getfield 71, 3) := by decide +kernel
theorem dX8_carp_49 : decode cX8_carp 49 = .ok (.bipush 30, 2) := by decide +kernel
theorem dX8_carp_51 : decode cX8_carp 51 = .ok (.if_icmp .ne 9, 3) := by decide +kernel
theorem dX8_carp_54 : decode cX8_carp 54 = .ok (.aload_n 0, 1) := by decide +kernel
theorem dX8_carp_55 : decode cX8_carp 55 = .ok (.iconst 2, 1) := by decide +kernel
theorem dX8_carp_56 : decode cX8_carp 56 = .ok (.invokevirtual 99, 3) := by decide +kernel
theorem dX8_carp_59 : decode cX8_carp 59 = .ok (.ireturn, 1) := by decide +kernel
theorem dX8_carp_60 : decode cX8_carp 60 = .ok (.aload_n 0, 1) := by decide +kernel
theorem dX8_carp_61 : decode cX8_carp 61 = .ok (.getfield 40, 3) := by decide +kernel
theorem dX8_carp_64 : decode cX8_carp 64 = .ok (.dup, 1) := by decide +kernel
theorem dX8_carp_65 : decode cX8_carp 65 = .ok (.getfield 96, 3) := by decide +kernel
theorem dX8_carp_68 : decode cX8_carp 68 = .ok (.iconst 4, 1) := by decide +kernel
theorem dX8_carp_69 : decode cX8_carp 69 = .ok (.isub, 1) := by decide +kernel
theorem dX8_carp_70 : decode cX8_carp 70 = .ok (.putfield 96, 3) := by decide +kernel
theorem dX8_carp_73 : decode cX8_carp 73 = .ok (.aload_n 0, 1) := by decide +kernel
theorem dX8_carp_74 : decode cX8_carp 74 = .ok (.getfield 22, 3) := by decide +kernel
theorem dX8_carp_77 : decode cX8_carp 77 = .ok (.aload_n 0, 1) := by decide +kernel
theorem dX8_carp_78 : decode cX8_carp 78 = .ok (.getfield 71, 3) := by decide +kernel
theorem dX8_carp_81 : decode cX8_carp 81 = .ok (.bipush 10, 2) := by decide +kernel
theorem dX8_carp_83 : decode cX8_carp 83 = .ok (.iload_n 2, 1) := by decide +kernel
theorem dX8_carp_84 : decode cX8_carp 84 = .ok (.imul, 1) := by decide +kernel
theorem dX8_carp_85 : decode cX8_carp 85 = .ok (.iload_n 1, 1) := by decide +kernel
theorem dX8_carp_86 : decode cX8_carp 86 = .ok (.iadd, 1) := by decide +kernel
theorem dX8_carp_87 : decode cX8_carp 87 = .ok (.iastore, 1) := by decide +kernel
theorem dX8_carp_88 : decode cX8_carp 88 = .ok (.aload_n 0, 1) := by decide +kernel
theorem dX8_carp_89 : decode cX8_carp 89 = .ok (.getfield 40, 3) := by decide +kernel
theorem dX8_carp_92 : decode cX8_carp 92 = .ok (.getfield 93, 3) := by decide +kernel
theorem dX8_carp_95 : decode cX8_carp 95 = .ok (.aload_n 0, 1) := by decide +kernel
theorem dX8_carp_96 : decode cX8_carp 96 = .ok (.getfield 71, 3) := by decide +kernel
theorem dX8_carp_99 : decode cX8_carp 99 = .ok (.iconst 1, 1) := by decide +kernel
theorem dX8_carp_100 : decode cX8_carp 100 = .ok (.iastore, 1) := by decide +kernel
theorem dX8_carp_101 : decode cX8_carp 101 = .ok (.aload_n 0, 1) := by decide +kernel
theorem dX8_carp_102 : decode cX8_carp 102 = .ok (.dup, 1) := by decide +kernel
theorem dX8_carp_103 : decode cX8_carp 103 = .ok (.getfield 71, 3) := by decide +kernel
theorem dX8_carp_106 : decode cX8_carp 106 = .ok (.iconst 1, 1) := by decide +kernel
theorem dX8_carp_107 : decode cX8_carp 107 = .ok (.iadd, 1) := by decide +kernel
theorem dX8_carp_108 : decode cX8_carp 108 = .ok (.putfield 71, 3) := by decide +kernel
theorem dX8_carp_111 : decode cX8_carp 111 = .ok (.aload_n 0, 1) := by decide +kernel
theorem dX8_carp_112 : decode cX8_carp 112 = .ok (.getfield 71, 3) := by decide +kernel
theorem dX8_carp_115 : decode cX8_carp 115 = .ok (.iconst 1, 1) := by decide +kernel
theorem dX8_carp_116 : decode cX8_carp 116 = .ok (.isub, 1) := by decide +kernel
theorem dX8_carp_117 : decode cX8_carp 117 = .ok (.ireturn, 1) := by decide +kernel
set_option maxRecDepth 20000 in
theorem ggX8_sell_X8_isIn : GoodIn wsX8_sell wsX8_isIn := goodIn_r _ [8] (by decide +kernel) (by decide +kernel)
set_option maxRecDepth 20000 in
theorem gX8_sell_X8_isIn : GoodIn wsX8_sell (va_wsS RX8 51 yX8_isIn wsX8_isIn) := goodIn_app (goodIn_of _ (by decide +kernel)) ggX8_sell_X8_isIn
set_option maxRecDepth 20000 in
theorem ggX8_sell_X8_no : GoodIn wsX8_sell wsX8_no := goodIn_r _ [12, 1, 13, 14, 15, 16, 17, 18, 19, 20, 21, 22, 23, 24, 25, 26, 27] (by decide +kernel) (by decide +kernel)
set_option maxRecDepth 20000 in
theorem gX8_sell_X8_no : GoodIn wsX8_sell (wsV RX8 99 RX8 yX8_no wsX8_no) := goodIn_app (goodIn_of _ (by decide +kernel)) ggX8_sell_X8_no
theorem dX8_sell_0 : decode cX8_sell 0 = .ok (.aload_n 0, 1) := by decide +kernel
theorem dX8_sell_1 : decode cX8_sell 1 = .ok (.iconst 0, 1) := by decide +kernel
theorem dX8_sell_2 : decode cX8_sell 2 = .ok (.putfield 47, 3) := by decide +kernel
theorem dX8_sell_5 : decode cX8_sell 5 = .ok (.iload_n 1, 1) := by decide +kernel
theorem dX8_sell_6 : decode cX8_sell 6 = .ok (.iconst 0, 1) := by decide +kernel
theorem dX8_sell_7 : decode cX8_sell 7 = .ok (.aload_n 0, 1) := by decide +kernel
theorem dX8_sell_8 : decode cX8_sell 8 = .ok (.getfield 71, 3) := by decide +kernel
theorem dX8_sell_11 : decode cX8_sell 11 = .ok (.iconst 1, 1) := by decide +kernel
theorem dX8_sell_12 : decode cX8_sell 12 = .ok (.isub, 1) := by decide +kernel
theorem dX8_sell_13 : decode cX8_sell 13 = .ok (.invokestatic 51, 3) := by decide +kernel
theorem dX8_sell_16 : decode cX8_sell 16 = .ok (.ifCond .ne 9, 3) := by decide +kernel
theorem dX8_sell_19 : decode cX8_sell 19 = .ok (.aload_n 0, 1) := by decide +kernel
theorem dX8_sell_20 : decode cX8_sell 20 = .ok (.iconst 1, 1) := by decide +kernel
theorem dX8_sell_21 : decode cX8_sell 21 = .ok (.invokevirtual 99, 3) := by decide +kernel
theorem dX8_sell_24 : decode cX8_sell 24 = .ok (.ireturn, 1) := by decide +kernel
theorem dX8_sell_25 : decode cX8_sell 25 = .ok (.aload_n 0, 1) := by decide +kernel
theorem dX8_sell_26 : decode cX8_sell 26 = .ok (.getfield 25, 3) := by decide +kernel
theorem dX8_sell_29 : decode cX8_sell 29 = .ok (.iload_n 1, 1) := by decide +kernel
theorem dX8_sell_30 : decode cX8_sell 30 = .ok (.iaload, 1) := by decide +kernel
theorem dX8_sell_31 : decode cX8_sell 31 = .ok (.iconst 1, 1) := by decide +kernel
theorem dX8_sell_32 : decode cX8_sell 32 = .ok (.if_icmp .ne 9, 3) := by decide +kernel
theorem dX8_sell_35 : decode cX8_sell 35 = .ok (.aload_n 0, 1) := by decide +kernel
theorem dX8_sell_36 : decode cX8_sell 36 = .ok (.iconst 2, 1) := by decide +kernel
theorem dX8_sell_37 : decode cX8_sell 37 = .ok (.invokevirtual 99, 3) := by decide +kernel
theorem dX8_sell_40 : decode cX8_sell 40 = .ok (.ireturn, 1) := by decide +kernel
theorem dX8_sell_41 : decode cX8_sell 41 = .ok (.aload_n 0, 1) := by decide +kernel
theorem dX8_sell_42 : decode cX8_sell 42 = .ok (.getfield 25, 3) := by decide +kernel
theorem dX8_sell_45 : decode cX8_sell 45 = .ok (.iload_n 1, 1) := by decide +kernel
theorem dX8_sell_46 : decode cX8_sell 46 = .ok (.iconst 1, 1) := by decide +kernel
theorem dX8_sell_47 : decode cX8_sell 47 = .ok (.iastore, 1) := by decide +kernel
theorem dX8_sell_48 : decode cX8_sell 48 = .ok (.aload_n 0, 1) := by decide +kernel
theorem dX8_sell_49 : decode cX8_sell 49 = .ok (.getfield 40, 3) := by decide +kernel
theorem dX8_sell_52 : decode cX8_sell 52 = .ok (.dup, 1) := by decide +kernel
theorem dX8_sell_53 : decode cX8_sell 53 = .ok (.getfield 96, 3) := by decide +kernel
theorem dX8_sell_56 : decode cX8_sell 56 = .ok (.aload_n 0, 1) := by decide +kernel
theorem dX8_sell_57 : decode cX8_sell 57 = .ok (.getfield 40, 3) := by decide +kernel
theorem dX8_sell_60 : decode cX8_sell 60 = .ok (.getfield 93, 3) := by decide +kernel
theorem dX8_sell_63 : decode cX8_sell 63 = .ok (.iload_n 1, 1) := by decide +kernel
theorem dX8_sell_64 : decode cX8_sell 64 = .ok (.iaload, 1) := by decide +kernel
theorem dX8_sell_65 : decode cX8_sell 65 = .ok (.iconst 2, 1) := by decide +kernel
theorem dX8_sell_66 : decode cX8_sell 66 = .ok (.idiv, 1) := by decide +kernel
theorem dX8_sell_67 : decode cX8_sell 67 = .ok (.iconst 1, 1) := by decide +kernel
theorem dX8_sell_68 : decode cX8_sell 68 = .ok (.iadd, 1) := by decide +kernel
theorem dX8_sell_69 : decode cX8_sell 69 = .ok (.iadd, 1) := by decide +kernel
theorem dX8_sell_70 : decode cX8_sell 70 = .ok (.putfield 96, 3) := by decide +kernel
theorem dX8_sell_73 : decode cX8_sell 73 = .ok (.aload_n 0, 1) := by decide +kernel
theorem dX8_sell_74 : decode cX8_sell 74 = .ok (.getfield 40, 3) := by decide +kernel
theorem dX8_sell_77 : decode cX8_sell 77 = .ok (.getfield 96, 3) := by decide +kernel
theorem dX8_sell_80 : decode cX8_sell 80 = .ok (.ireturn, 1) := by decide +kernel
theorem dX8_carpTold_0 : decode cX8_carpTold 0 = .ok (.aload_n 0, 1) := by decide +kernel
theorem dX8_carpTold_1 : decode cX8_carpTold 1 = .ok (.getfield 25, 3) := by decide +kernel
theorem dX8_carpTold_4 : decode cX8_carpTold 4 = .ok (.iload_n 1, 1) := by decide +kernel
theorem dX8_carpTold_5 : decode cX8_carpTold 5 = .ok (.iaload, 1) := by decide +kernel
theorem dX8_carpTold_6 : decode cX8_carpTold 6 = .ok (.iconst 1, 1) := by decide +kernel
theorem dX8_carpTold_7 : decode cX8_carpTold 7 = .ok (.if_icmp .ne 7, 3) := by decide +kernel
theorem dX8_carpTold_10 : decode cX8_carpTold 10 = .ok (.iconst 0, 1) := by decide +kernel
theorem dX8_carpTold_11 : decode cX8_carpTold 11 = .ok (.goto 4, 3) := by decide +kernel
theorem dX8_carpTold_14 : decode cX8_carpTold 14 = .ok (.iconst 1, 1) := by decide +kernel
theorem dX8_carpTold_15 : decode cX8_carpTold 15 = .ok (.istore_n 3, 1) := by decide +kernel
theorem dX8_carpTold_16 : decode cX8_carpTold 16 = .ok (.iconst 0, 1) := by decide +kernel
theorem dX8_carpTold_17 : decode cX8_carpTold 17 = .ok (.istore 4, 2) := by decide +kernel
theorem dX8_carpTold_19 : decode cX8_carpTold 19 = .ok (.iload 4, 2) := by decide +kernel
theorem dX8_carpTold_21 : decode cX8_carpTold 21 = .ok (.aload_n 0, 1) := by decide +kernel
theorem dX8_carpTold_22 : decode cX8_carpTold 22 = .ok (.getfield 71, 3) := by decide +kernel
theorem dX8_carpTold_25 : decode cX8_carpTold 25 = .ok (.if_icmp .ge 53, 3) := by decide +kernel
theorem dX8_carpTold_28 : decode cX8_carpTold 28 = .ok (.iload_n 3, 1) := by decide +kernel
theorem dX8_carpTold_29 : decode cX8_carpTold 29 = .ok (.iload_n 3, 1) := by decide +kernel
theorem dX8_carpTold_30 : decode cX8_carpTold 30 = .ok (.ifCond .le 39, 3) := by decide +kernel
theorem dX8_carpTold_33 : decode cX8_carpTold 33 = .ok (.aload_n 0, 1) := by decide +kernel
theorem dX8_carpTold_34 : decode cX8_carpTold 34 = .ok (.getfield 25, 3) := by decide +kernel
theorem dX8_carpTold_37 : decode cX8_carpTold 37 = .ok (.iload 4, 2) := by decide +kernel
theorem dX8_carpTold_39 : decode cX8_carpTold 39 = .ok (.iaload, 1) := by decide +kernel
theorem dX8_carpTold_40 : decode cX8_carpTold 40 = .ok (.ifCond .ne 29, 3) := by decide +kernel
theorem dX8_carpTold_43 : decode cX8_carpTold 43 = .ok (.aload_n 0, 1) := by decide +kernel
theorem dX8_carpTold_44 : decode cX8_carpTold 44 = .ok (.getfield 40, 3) := by decide +kernel
theorem dX8_carpTold_47 : decode cX8_carpTold 47 = .ok (.getfield 93, 3) := by decide +kernel
theorem dX8_carpTold_50 : decode cX8_carpTold 50 = .ok (.iload 4, 2) := by decide +kernel
theorem dX8_carpTold_52 : decode cX8_carpTold 52 = .ok (.iaload, 1) := by decide +kernel
theorem dX8_carpTold_53 : decode cX8_carpTold 53 = .ok (.aload_n 0, 1) := by decide +kernel
theorem dX8_carpTold_54 : decode cX8_carpTold 54 = .ok (.getfield 40, 3) := by decide +kernel
theorem dX8_carpTold_57 : decode cX8_carpTold 57 = .ok (.getfield 93, 3) := by decide +kernel
theorem dX8_carpTold_60 : decode cX8_carpTold 60 = .ok (.iload_n 1, 1) := by decide +kernel
theorem dX8_carpTold_61 : decode cX8_carpTold 61 = .ok (.iaload, 1) := by decide +kernel
theorem dX8_carpTold_62 : decode cX8_carpTold 62 = .ok (.if_icmp .le 7, 3) := by decide +kernel
theorem dX8_carpTold_65 : decode cX8_carpTold 65 = .ok (.iconst 1, 1) := by decide +kernel
theorem dX8_carpTold_66 : decode cX8_carpTold 66 = .ok (.goto 4, 3) := by decide +kernel
theorem dX8_carpTold_69 : decode cX8_carpTold 69 = .ok (.iconst 0, 1) := by decide +kernel
theorem dX8_carpTold_70 : decode cX8_carpTold 70 = .ok (.iadd, 1) := by decide +kernel
theorem dX8_carpTold_71 : decode cX8_carpTold 71 = .ok (.istore_n 3, 1) := by decide +kernel
theorem dX8_carpTold_72 : decode cX8_carpTold 72 = .ok (.iinc 4 1, 3) := by decide +kernel
theorem dX8_carpTold_75 : decode cX8_carpTold 75 = .ok (.goto (-56), 3) := by decide +kernel
theorem dX8_carpTold_78 : decode cX8_carpTold 78 = .ok (.iconst 5, 1) := by decide +kernel
theorem dX8_carpTold_79 : decode cX8_carpTold 79 = .ok (.newarray .int, 2) := by decide +kernel
theorem dX8_carpTold_81 : decode cX8_carpTold 81 = .ok (.dup, 1) := by decide +kernel
theorem dX8_carpTold_82 : decode cX8_carpTold 82 = .ok (.iconst 0, 1) := by decide +kernel
theorem dX8_carpTold_83 : decode cX8_carpTold 83 = .ok (.aload_n 0, 1) := by decide +kernel
theorem dX8_carpTold_84 : decode cX8_carpTold 84 = .ok (.getfield 22, 3) := by decide +kernel
theorem dX8_carpTold_87 : decode cX8_carpTold 87 = .ok (.iload_n 1, 1) := by decide +kernel
theorem dX8_carpTold_88 : decode cX8_carpTold 88 = .ok (.iaload, 1) := by decide +kernel
theorem dX8_carpTold_89 : decode cX8_carpTold 89 = .ok (.bipush 10, 2) := by decide +kernel
theorem dX8_carpTold_91 : decode cX8_carpTold 91 = .ok (.irem, 1) := by decide +kernel
theorem dX8_carpTold_92 : decode cX8_carpTold 92 = .ok (.iastore, 1) := by decide +kernel
theorem dX8_carpTold_93 : decode cX8_carpTold 93 = .ok (.dup, 1) := by decide +kernel
theorem dX8_carpTold_94 : decode cX8_carpTold 94 = .ok (.iconst 1, 1) := by decide +kernel
theorem dX8_carpTold_95 : decode cX8_carpTold 95 = .ok (.aload_n 0, 1) := by decide +kernel
theorem dX8_carpTold_96 : decode cX8_carpTold 96 = .ok (.getfield 22, 3) := by decide +kernel
theorem dX8_carpTold_99 : decode cX8_carpTold 99 = .ok (.iload_n 1, 1) := by decide +kernel
theorem dX8_carpTold_100 : decode cX8_carpTold 100 = .ok (.iaload, 1) := by decide +kernel
theorem dX8_carpTold_101 : decode cX8_carpTold 101 = .ok (.bipush 10, 2) := by decide +kernel
theorem dX8_carpTold_103 : decode cX8_carpTold 103 = .ok (.idiv, 1) := by decide +kernel
theorem dX8_carpTold_104 : decode cX8_carpTold 104 = .ok (.iastore, 1) := by decide +kernel
theorem dX8_carpTold_105 : decode cX8_carpTold 105 = .ok (.dup, 1) := by decide +kernel
theorem dX8_carpTold_106 : decode cX8_carpTold 106 = .ok (.iconst 2, 1) := by decide +kernel
theorem dX8_carpTold_107 : decode cX8_carpTold 107 = .ok (.aload_n 0, 1) := by decide +kernel
theorem dX8_carpTold_108 : decode cX8_carpTold 108 = .ok (.getfield 40, 3) := by decide +kernel
theorem dX8_carpTold_111 : decode cX8_carpTold 111 = .ok (.getfield 93, 3) := by decide +kernel
theorem dX8_carpTold_114 : decode cX8_carpTold 114 = .ok (.iload_n 1, 1) := by decide +kernel
theorem dX8_carpTold_115 : decode cX8_carpTold 115 = .ok (.iaload, 1) := by decide +kernel
theorem dX8_carpTold_116 : decode cX8_carpTold 116 = .ok (.iastore, 1) := by decide +kernel
theorem dX8_carpTold_117 : decode cX8_carpTold 117 = .ok (.dup, 1) := by decide +kernel
theorem dX8_carpTold_118 : decode cX8_carpTold 118 = .ok (.iconst 3, 1) := by decide +kernel
theorem dX8_carpTold_119 : decode cX8_carpTold 119 = .ok (.aload_n 0, 1) := by decide +kernel
theorem dX8_carpTold_120 : decode cX8_carpTold 120 = .ok (.getfield 25, 3) := by decide +kernel
theorem dX8_carpTold_123 : decode cX8_carpTold 123 = .ok (.iload_n 1, 1) := by decide +kernel
theorem dX8_carpTold_124 : decode cX8_carpTold 124 = .ok (.iaload, 1) := by decide +kernel
theorem dX8_carpTold_125 : decode cX8_carpTold 125 = .ok (.iastore, 1) := by decide +kernel
theorem dX8_carpTold_126 : decode cX8_carpTold 126 = .ok (.dup, 1) := by decide +kernel
theorem dX8_carpTold_127 : decode cX8_carpTold 127 = .ok (.iconst 4, 1) := by decide +kernel
theorem dX8_carpTold_128 : decode cX8_carpTold 128 = .ok (.iload_n 3, 1) := by decide +kernel
theorem dX8_carpTold_129 : decode cX8_carpTold 129 = .ok (.iastore, 1) := by decide +kernel
theorem dX8_carpTold_130 : decode cX8_carpTold 130 = .ok (.astore 4, 2) := by decide +kernel
theorem dX8_carpTold_132 : decode cX8_carpTold 132 = .ok (.aload 4, 2) := by decide +kernel
theorem dX8_carpTold_134 : decode cX8_carpTold 134 = .ok (.iload_n 2, 1) := by decide +kernel
theorem dX8_carpTold_135 : decode cX8_carpTold 135 = .ok (.iaload, 1) := by decide +kernel
theorem dX8_carpTold_136 : decode cX8_carpTold 136 = .ok (.ireturn, 1) := by decide +kernel
set_option maxRecDepth 20000 in
theorem ggX8_told_X8_isIn : GoodIn wsX8_told wsX8_isIn := goodIn_r _ [6] (by decide +kernel) (by decide +kernel)
set_option maxRecDepth 20000 in
theorem gX8_told_X8_isIn : GoodIn wsX8_told (va_wsS RX8 51 yX8_isIn wsX8_isIn) := goodIn_app (goodIn_of _ (by decide +kernel)) ggX8_told_X8_isIn
set_option maxRecDepth 20000 in
theorem ggX8_told_X8_carpTold : GoodIn wsX8_told wsX8_carpTold := goodIn_r _ [10, 11, 2, 12, 13, 14, 19, 20, 21, 22, 23, 24, 25, 26, 27, 28, 29, 30, 31, 32, 33, 34, 35, 36, 37] (by decide +kernel) (by decide +kernel)
set_option maxRecDepth 20000 in
theorem gX8_told_X8_carpTold : GoodIn wsX8_told (wsV RX8 115 RX8 yX8_carpTold wsX8_carpTold) := goodIn_app (goodIn_of _ (by decide +kernel)) ggX8_told_X8_carpTold
set_option maxRecDepth 20000 in
theorem ggX8_told_X8_no : GoodIn wsX8_told wsX8_no := goodIn_r _ [18, 1, 19, 20, 21, 22, 23, 24, 25, 26, 27, 28, 29, 30, 31, 32, 33] (by decide +kernel) (by decide +kernel)
set_option maxRecDepth 20000 in
theorem gX8_told_X8_no : GoodIn wsX8_told (wsV RX8 99 RX8 yX8_no wsX8_no) := goodIn_app (goodIn_of _ (by decide +kernel)) ggX8_told_X8_no
theorem dX8_told_0 : decode cX8_told 0 = .ok (.aload_n 0, 1) := by decide +kernel
theorem dX8_told_1 : decode cX8_told 1 = .ok (.iconst 0, 1) := by decide +kernel
theorem dX8_told_2 : decode cX8_told 2 = .ok (.putfield 47, 3) := by decide +kernel
theorem dX8_told_5 : decode cX8_told 5 = .ok (.iload_n 1, 1) := by decide +kernel
theorem dX8_told_6 : decode cX8_told 6 = .ok (.iconst 0, 1) := by decide +kernel
theorem dX8_told_7 : decode cX8_told 7 = .ok (.aload_n 0, 1) := by decide +kernel
theorem dX8_told_8 : decode cX8_told 8 = .ok (.getfield 71, 3) := by decide +kernel
theorem dX8_told_11 : decode cX8_told 11 = .ok (.iconst 1, 1) := by decide +kernel
theorem dX8_told_12 : decode cX8_told 12 = .ok (.isub, 1) := by decide +kernel
theorem dX8_told_13 : decode cX8_told 13 = .ok (.invokestatic 51, 3) := by decide +kernel
theorem dX8_told_16 : decode cX8_told 16 = .ok (.ifCond .eq 21, 3) := by decide +kernel
theorem dX8_told_19 : decode cX8_told 19 = .ok (.iload_n 2, 1) := by decide +kernel
theorem dX8_told_20 : decode cX8_told 20 = .ok (.iconst 0, 1) := by decide +kernel
theorem dX8_told_21 : decode cX8_told 21 = .ok (.iconst 4, 1) := by decide +kernel
theorem dX8_told_22 : decode cX8_told 22 = .ok (.invokestatic 51, 3) := by decide +kernel
theorem dX8_told_25 : decode cX8_told 25 = .ok (.ifCond .eq 12, 3) := by decide +kernel
theorem dX8_told_28 : decode cX8_told 28 = .ok (.aload_n 0, 1) := by decide +kernel
theorem dX8_told_29 : decode cX8_told 29 = .ok (.iload_n 1, 1) := by decide +kernel
theorem dX8_told_30 : decode cX8_told 30 = .ok (.iload_n 2, 1) := by decide +kernel
theorem dX8_told_31 : decode cX8_told 31 = .ok (.invokevirtual 115, 3) := by decide +kernel
theorem dX8_told_34 : decode cX8_told 34 = .ok (.goto 8, 3) := by decide +kernel
theorem dX8_told_37 : decode cX8_told 37 = .ok (.aload_n 0, 1) := by decide +kernel
theorem dX8_told_38 : decode cX8_told 38 = .ok (.iconst 1, 1) := by decide +kernel
theorem dX8_told_39 : decode cX8_told 39 = .ok (.invokevirtual 99, 3) := by decide +kernel
theorem dX8_told_42 : decode cX8_told 42 = .ok (.ireturn, 1) := by decide +kernel
set_option maxRecDepth 20000 in
theorem ggX8_gate_X8_isCell : GoodIn wsX8_gate wsX8_isCell := goodIn_r _ [8, 9, 10, 7, 11] (by decide +kernel) (by decide +kernel)
set_option maxRecDepth 20000 in
theorem gX8_gate_X8_isCell : GoodIn wsX8_gate (va_wsS RX8 86 yX8_isCell wsX8_isCell) := goodIn_app (goodIn_of _ (by decide +kernel)) ggX8_gate_X8_isCell
set_option maxRecDepth 20000 in
theorem ggX8_gate_X8_no : GoodIn wsX8_gate wsX8_no := goodIn_r _ [15, 1, 16, 17, 18, 19, 20, 21, 22, 23, 24, 25, 26, 27, 28, 29, 30] (by decide +kernel) (by decide +kernel)
set_option maxRecDepth 20000 in
theorem gX8_gate_X8_no : GoodIn wsX8_gate (wsV RX8 99 RX8 yX8_no wsX8_no) := goodIn_app (goodIn_of _ (by decide +kernel)) ggX8_gate_X8_no
set_option maxRecDepth 20000 in
theorem ggX8_gate_X8_isIn : GoodIn wsX8_gate wsX8_isIn := goodIn_r _ [11] (by decide +kernel) (by decide +kernel)
set_option maxRecDepth 20000 in
theorem gX8_gate_X8_isIn : GoodIn wsX8_gate (va_wsS RX8 51 yX8_isIn wsX8_isIn) := goodIn_app (goodIn_of _ (by decide +kernel)) ggX8_gate_X8_isIn
theorem dX8_gate_0 : decode cX8_gate 0 = .ok (.aload_n 0, 1) := by decide +kernel
theorem dX8_gate_1 : decode cX8_gate 1 = .ok (.iconst 0, 1) := by decide +kernel
theorem dX8_gate_2 : decode cX8_gate 2 = .ok (.putfield 47, 3) := by decide +kernel
theorem dX8_gate_5 : decode cX8_gate 5 = .ok (.iload_n 1, 1) := by decide +kernel
theorem dX8_gate_6 : decode cX8_gate 6 = .ok (.iload_n 2, 1) := by decide +kernel
theorem dX8_gate_7 : decode cX8_gate 7 = .ok (.invokestatic 86, 3) := by decide +kernel
theorem dX8_gate_10 : decode cX8_gate 10 = .ok (.ifCond .ne 9, 3) := by decide +kernel
theorem dX8_gate_13 : decode cX8_gate 13 = .ok (.aload_n 0, 1) := by decide +kernel
theorem dX8_gate_14 : decode cX8_gate 14 = .ok (.iconst 1, 1) := by decide +kernel
theorem dX8_gate_15 : decode cX8_gate 15 = .ok (.invokevirtual 99, 3) := by decide +kernel
theorem dX8_gate_18 : decode cX8_gate 18 = .ok (.ireturn, 1) := by decide +kernel
theorem dX8_gate_19 : decode cX8_gate 19 = .ok (.iload_n 3, 1) := by decide +kernel
theorem dX8_gate_20 : decode cX8_gate 20 = .ok (.iconst 0, 1) := by decide +kernel
theorem dX8_gate_21 : decode cX8_gate 21 = .ok (.iconst 3, 1) := by decide +kernel
theorem dX8_gate_22 : decode cX8_gate 22 = .ok (.invokestatic 51, 3) := by decide +kernel
theorem dX8_gate_25 : decode cX8_gate 25 = .ok (.ifCond .ne 9, 3) := by decide +kernel
theorem dX8_gate_28 : decode cX8_gate 28 = .ok (.aload_n 0, 1) := by decide +kernel
theorem dX8_gate_29 : decode cX8_gate 29 = .ok (.iconst 2, 1) := by decide +kernel
theorem dX8_gate_30 : decode cX8_gate 30 = .ok (.invokevirtual 99, 3) := by decide +kernel
theorem dX8_gate_33 : decode cX8_gate 33 = .ok (.ireturn, 1) := by decide +kernel
theorem dX8_gate_34 : decode cX8_gate 34 = .ok (.aload_n 0, 1) := by decide +kernel
theorem dX8_gate_35 : decode cX8_gate 35 = .ok (.getfield 55, 3) := by decide +kernel
theorem dX8_gate_38 : decode cX8_gate 38 = .ok (.bipush 6, 2) := by decide +kernel
theorem dX8_gate_40 : decode cX8_gate 40 = .ok (.if_icmp .ne 9, 3) := by decide +kernel
theorem dX8_gate_43 : decode cX8_gate 43 = .ok (.aload_n 0, 1) := by decide +kernel
theorem dX8_gate_44 : decode cX8_gate 44 = .ok (.iconst 3, 1) := by decide +kernel
theorem dX8_gate_45 : decode cX8_gate 45 = .ok (.invokevirtual 99, 3) := by decide +kernel
theorem dX8_gate_48 : decode cX8_gate 48 = .ok (.ireturn, 1) := by decide +kernel
theorem dX8_gate_49 : decode cX8_gate 49 = .ok (.aload_n 0, 1) := by decide +kernel
theorem dX8_gate_50 : decode cX8_gate 50 = .ok (.getfield 28, 3) := by decide +kernel
theorem dX8_gate_53 : decode cX8_gate 53 = .ok (.aload_n 0, 1) := by decide +kernel
theorem dX8_gate_54 : decode cX8_gate 54 = .ok (.getfield 55, 3) := by decide +kernel
theorem dX8_gate_57 : decode cX8_gate 57 = .ok (.bipush 10, 2) := by decide +kernel
theorem dX8_gate_59 : decode cX8_gate 59 = .ok (.iload_n 2, 1) := by decide +kernel
theorem dX8_gate_60 : decode cX8_gate 60 = .ok (.imul, 1) := by decide +kernel
theorem dX8_gate_61 : decode cX8_gate 61 = .ok (.iload_n 1, 1) := by decide +kernel
theorem dX8_gate_62 : decode cX8_gate 62 = .ok (.iadd, 1) := by decide +kernel
theorem dX8_gate_63 : decode cX8_gate 63 = .ok (.iastore, 1) := by decide +kernel
theorem dX8_gate_64 : decode cX8_gate 64 = .ok (.aload_n 0, 1) := by decide +kernel
theorem dX8_gate_65 : decode cX8_gate 65 = .ok (.getfield 31, 3) := by decide +kernel
theorem dX8_gate_68 : decode cX8_gate 68 = .ok (.aload_n 0, 1) := by decide +kernel
theorem dX8_gate_69 : decode cX8_gate 69 = .ok (.getfield 55, 3) := by decide +kernel
theorem dX8_gate_72 : decode cX8_gate 72 = .ok (.iload_n 3, 1) := by decide +kernel
theorem dX8_gate_73 : decode cX8_gate 73 = .ok (.iastore, 1) := by decide +kernel
theorem dX8_gate_74 : decode cX8_gate 74 = .ok (.aload_n 0, 1) := by decide +kernel
theorem dX8_gate_75 : decode cX8_gate 75 = .ok (.dup, 1) := by decide +kernel
theorem dX8_gate_76 : decode cX8_gate 76 = .ok (.getfield 55, 3) := by decide +kernel
theorem dX8_gate_79 : decode cX8_gate 79 = .ok (.iconst 1, 1) := by decide +kernel
theorem dX8_gate_80 : decode cX8_gate 80 = .ok (.iadd, 1) := by decide +kernel
theorem dX8_gate_81 : decode cX8_gate 81 = .ok (.putfield 55, 3) := by decide +kernel
theorem dX8_gate_84 : decode cX8_gate 84 = .ok (.aload_n 0, 1) := by decide +kernel
theorem dX8_gate_85 : decode cX8_gate 85 = .ok (.getfield 55, 3) := by decide +kernel
theorem dX8_gate_88 : decode cX8_gate 88 = .ok (.iconst 1, 1) := by decide +kernel
theorem dX8_gate_89 : decode cX8_gate 89 = .ok (.isub, 1) := by decide +kernel
theorem dX8_gate_90 : decode cX8_gate 90 = .ok (.ireturn, 1) := by decide +kernel
set_option maxRecDepth 20000 in
theorem ggX8_gateTold_X8_many : GoodIn wsX8_gateTold wsX8_many := goodIn_r _ [8, 9, 10, 11, 12, 7, 13, 14, 15, 16, 17, 18, 19, 20, 21, 22, 23, 24, 33, 34, 35, 36, 37, 38, 39, 40, 41, 42, 43, 44, 45, 46, 47] (by decide +kernel) (by decide +kernel)
set_option maxRecDepth 20000 in
theorem gX8_gateTold_X8_many : GoodIn wsX8_gateTold (wsV RX8 118 RX8 yX8_many wsX8_many) := goodIn_app (goodIn_of _ (by decide +kernel)) ggX8_gateTold_X8_many
set_option maxRecDepth 20000 in
theorem ggX8_gateTold_X8_beauty : GoodIn wsX8_gateTold wsX8_beauty := goodIn_r _ [28, 9, 18, 29, 30, 31, 32, 10, 11, 12, 7, 13, 14, 15, 16, 17, 19, 20, 21, 22, 23, 24, 33, 34, 35, 36, 37, 38, 39, 40, 41, 42, 43, 44, 45, 46, 47, 48, 49, 50, 51] (by decide +kernel) (by decide +kernel)
set_option maxRecDepth 20000 in
theorem gX8_gateTold_X8_beauty : GoodIn wsX8_gateTold (wsV RX8 121 RX8 yX8_beauty wsX8_beauty) := goodIn_app (goodIn_of _ (by decide +kernel)) ggX8_gateTold_X8_beauty
theorem dX8_gateTold_0 : decode cX8_gateTold 0 = .ok (.iconst 0, 1) := by decide +kernel
theorem dX8_gateTold_1 : decode cX8_gateTold 1 = .ok (.istore_n 3, 1) := by decide +kernel
theorem dX8_gateTold_2 : decode cX8_gateTold 2 = .ok (.iconst 0, 1) := by decide +kernel
theorem dX8_gateTold_3 : decode cX8_gateTold 3 = .ok (.istore 4, 2) := by decide +kernel
theorem dX8_gateTold_5 : decode cX8_gateTold 5 = .ok (.iload 4, 2) := by decide +kernel
theorem dX8_gateTold_7 : decode cX8_gateTold 7 = .ok (.aload_n 0, 1) := by decide +kernel
theorem dX8_gateTold_8 : decode cX8_gateTold 8 = .ok (.getfield 58, 3) := by decide +kernel
theorem dX8_gateTold_11 : decode cX8_gateTold 11 = .ok (.if_icmp .ge 28, 3) := by decide +kernel
theorem dX8_gateTold_14 : decode cX8_gateTold 14 = .ok (.iload_n 3, 1) := by decide +kernel
theorem dX8_gateTold_15 : decode cX8_gateTold 15 = .ok (.aload_n 0, 1) := by decide +kernel
theorem dX8_gateTold_16 : decode cX8_gateTold 16 = .ok (.getfield 34, 3) := by decide +kernel
theorem dX8_gateTold_19 : decode cX8_gateTold 19 = .ok (.iload 4, 2) := by decide +kernel
theorem dX8_gateTold_21 : decode cX8_gateTold 21 = .ok (.iaload, 1) := by decide +kernel
theorem dX8_gateTold_22 : decode cX8_gateTold 22 = .ok (.iload_n 1, 1) := by decide +kernel
theorem dX8_gateTold_23 : decode cX8_gateTold 23 = .ok (.if_icmp .ne 7, 3) := by decide +kernel
theorem dX8_gateTold_26 : decode cX8_gateTold 26 = .ok (.iconst 1, 1) := by decide +kernel
theorem dX8_gateTold_27 : decode cX8_gateTold 27 = .ok (.goto 4, 3) := by decide +kernel
theorem dX8_gateTold_30 : decode cX8_gateTold 30 = .ok (.iconst 0, 1) := by decide +kernel
theorem dX8_gateTold_31 : decode cX8_gateTold 31 = .ok (.iadd, 1) := by decide +kernel
theorem dX8_gateTold_32 : decode cX8_gateTold 32 = .ok (.istore_n 3, 1) := by decide +kernel
theorem dX8_gateTold_33 : decode cX8_gateTold 33 = .ok (.iinc 4 1, 3) := by decide +kernel
theorem dX8_gateTold_36 : decode cX8_gateTold 36 = .ok (.goto (-31), 3) := by decide +kernel
theorem dX8_gateTold_39 : decode cX8_gateTold 39 = .ok (.iload_n 2, 1) := by decide +kernel
theorem dX8_gateTold_40 : decode cX8_gateTold 40 = .ok (.ifCond .ne 12, 3) := by decide +kernel
theorem dX8_gateTold_43 : decode cX8_gateTold 43 = .ok (.aload_n 0, 1) := by decide +kernel
theorem dX8_gateTold_44 : decode cX8_gateTold 44 = .ok (.iload_n 1, 1) := by decide +kernel
theorem dX8_gateTold_45 : decode cX8_gateTold 45 = .ok (.iconst 0, 1) := by decide +kernel
theorem dX8_gateTold_46 : decode cX8_gateTold 46 = .ok (.invokevirtual 118, 3) := by decide +kernel
theorem dX8_gateTold_49 : decode cX8_gateTold 49 = .ok (.goto 49, 3) := by decide +kernel
theorem dX8_gateTold_52 : decode cX8_gateTold 52 = .ok (.iload_n 2, 1) := by decide +kernel
theorem dX8_gateTold_53 : decode cX8_gateTold 53 = .ok (.iconst 1, 1) := by decide +kernel
theorem dX8_gateTold_54 : decode cX8_gateTold 54 = .ok (.if_icmp .ne 12, 3) := by decide +kernel
theorem dX8_gateTold_57 : decode cX8_gateTold 57 = .ok (.aload_n 0, 1) := by decide +kernel
theorem dX8_gateTold_58 : decode cX8_gateTold 58 = .ok (.iload_n 1, 1) := by decide +kernel
theorem dX8_gateTold_59 : decode cX8_gateTold 59 = .ok (.iconst 1, 1) := by decide +kernel
theorem dX8_gateTold_60 : decode cX8_gateTold 60 = .ok (.invokevirtual 118, 3) := by decide +kernel
theorem dX8_gateTold_63 : decode cX8_gateTold 63 = .ok (.goto 35, 3) := by decide +kernel
theorem dX8_gateTold_66 : decode cX8_gateTold 66 = .ok (.iload_n 2, 1) := by decide +kernel
theorem dX8_gateTold_67 : decode cX8_gateTold 67 = .ok (.iconst 2, 1) := by decide +kernel
theorem dX8_gateTold_68 : decode cX8_gateTold 68 = .ok (.if_icmp .ne 12, 3) := by decide +kernel
theorem dX8_gateTold_71 : decode cX8_gateTold 71 = .ok (.aload_n 0, 1) := by decide +kernel
theorem dX8_gateTold_72 : decode cX8_gateTold 72 = .ok (.iload_n 1, 1) := by decide +kernel
theorem dX8_gateTold_73 : decode cX8_gateTold 73 = .ok (.iconst 2, 1) := by decide +kernel
theorem dX8_gateTold_74 : decode cX8_gateTold 74 = .ok (.invokevirtual 118, 3) := by decide +kernel
theorem dX8_gateTold_77 : decode cX8_gateTold 77 = .ok (.goto 21, 3) := by decide +kernel
theorem dX8_gateTold_80 : decode cX8_gateTold 80 = .ok (.iload_n 2, 1) := by decide +kernel
theorem dX8_gateTold_81 : decode cX8_gateTold 81 = .ok (.iconst 3, 1) := by decide +kernel
theorem dX8_gateTold_82 : decode cX8_gateTold 82 = .ok (.if_icmp .ne 15, 3) := by decide +kernel
theorem dX8_gateTold_85 : decode cX8_gateTold 85 = .ok (.aload_n 0, 1) := by decide +kernel
theorem dX8_gateTold_86 : decode cX8_gateTold 86 = .ok (.iload_n 1, 1) := by decide +kernel
theorem dX8_gateTold_87 : decode cX8_gateTold 87 = .ok (.aload_n 0, 1) := by decide +kernel
theorem dX8_gateTold_88 : decode cX8_gateTold 88 = .ok (.getfield 40, 3) := by decide +kernel
theorem dX8_gateTold_91 : decode cX8_gateTold 91 = .ok (.invokevirtual 121, 3) := by decide +kernel
theorem dX8_gateTold_94 : decode cX8_gateTold 94 = .ok (.goto 4, 3) := by decide +kernel
theorem dX8_gateTold_97 : decode cX8_gateTold 97 = .ok (.iload_n 3, 1) := by decide +kernel
theorem dX8_gateTold_98 : decode cX8_gateTold 98 = .ok (.ireturn, 1) := by decide +kernel
set_option maxRecDepth 20000 in
theorem ggX8_about_X8_isGate : GoodIn wsX8_about wsX8_isGate := goodIn_r _ [6, 7, 8, 9, 5, 10, 47, 48, 49, 50, 51, 52, 53, 54, 55, 56, 57, 58, 59, 60, 61] (by decide +kernel) (by decide +kernel)
set_option maxRecDepth 20000 in
theorem gX8_about_X8_isGate : GoodIn wsX8_about (wsV RX8 125 RX8 yX8_isGate wsX8_isGate) := goodIn_app (goodIn_of _ (by decide +kernel)) ggX8_about_X8_isGate
set_option maxRecDepth 20000 in
theorem ggX8_about_X8_isIn : GoodIn wsX8_about wsX8_isIn := goodIn_r _ [10] (by decide +kernel) (by decide +kernel)
set_option maxRecDepth 20000 in
theorem gX8_about_X8_isIn : GoodIn wsX8_about (va_wsS RX8 51 yX8_isIn wsX8_isIn) := goodIn_app (goodIn_of _ (by decide +kernel)) ggX8_about_X8_isIn
set_option maxRecDepth 20000 in
theorem ggX8_about_X8_gateTold : GoodIn wsX8_about wsX8_gateTold := goodIn_r _ [14, 15, 16, 17, 18, 19, 20, 5, 21, 22, 23, 24, 25, 26, 27, 28, 29, 30, 31, 32, 33, 34, 8, 9, 10, 35, 36, 37, 38, 39, 40, 41, 42, 47, 48, 49, 50, 51, 52, 53, 54, 55, 56, 57, 58, 59, 60, 61, 62, 63, 64, 65] (by decide +kernel) (by decide +kernel)
set_option maxRecDepth 20000 in
theorem gX8_about_X8_gateTold : GoodIn wsX8_about (wsV RX8 129 RX8 yX8_gateTold wsX8_gateTold) := goodIn_app (goodIn_of _ (by decide +kernel)) ggX8_about_X8_gateTold
set_option maxRecDepth 20000 in
theorem ggX8_about_X8_no : GoodIn wsX8_about wsX8_no := goodIn_r _ [46, 1, 47, 48, 49, 50, 51, 52, 53, 54, 55, 56, 57, 58, 59, 60, 61] (by decide +kernel) (by decide +kernel)
set_option maxRecDepth 20000 in
theorem gX8_about_X8_no : GoodIn wsX8_about (wsV RX8 99 RX8 yX8_no wsX8_no) := goodIn_app (goodIn_of _ (by decide +kernel)) ggX8_about_X8_no
theorem dX8_about_0 : decode cX8_about 0 = .ok (.aload_n 0, 1) := by decide +kernel
theorem dX8_about_1 : decode cX8_about 1 = .ok (.iconst 0, 1) := by decide +kernel
theorem dX8_about_2 : decode cX8_about 2 = .ok (.putfield 47, 3) := by decide +kernel
theorem dX8_about_5 : decode cX8_about 5 = .ok (.aload_n 0, 1) := by decide +kernel
theorem dX8_about_6 : decode cX8_about 6 = .ok (.iload_n 1, 1) := by decide +kernel
theorem dX8_about_7 : decode cX8_about 7 = .ok (.invokevirtual 125, 3) := by decide +kernel
theorem dX8_about_10 : decode cX8_about 10 = .ok (.ifCond .eq 21, 3) := by decide +kernel
theorem dX8_about_13 : decode cX8_about 13 = .ok (.iload_n 2, 1) := by decide +kernel
theorem dX8_about_14 : decode cX8_about 14 = .ok (.iconst 0, 1) := by decide +kernel
theorem dX8_about_15 : decode cX8_about 15 = .ok (.iconst 4, 1) := by decide +kernel
theorem dX8_about_16 : decode cX8_about 16 = .ok (.invokestatic 51, 3) := by decide +kernel
theorem dX8_about_19 : decode cX8_about 19 = .ok (.ifCond .eq 12, 3) := by decide +kernel
theorem dX8_about_22 : decode cX8_about 22 = .ok (.aload_n 0, 1) := by decide +kernel
theorem dX8_about_23 : decode cX8_about 23 = .ok (.iload_n 1, 1) := by decide +kernel
theorem dX8_about_24 : decode cX8_about 24 = .ok (.iload_n 2, 1) := by decide +kernel
theorem dX8_about_25 : decode cX8_about 25 = .ok (.invokevirtual 129, 3) := by decide +kernel
theorem dX8_about_28 : decode cX8_about 28 = .ok (.goto 8, 3) := by decide +kernel
theorem dX8_about_31 : decode cX8_about 31 = .ok (.aload_n 0, 1) := by decide +kernel
theorem dX8_about_32 : decode cX8_about 32 = .ok (.iconst 1, 1) := by decide +kernel
theorem dX8_about_33 : decode cX8_about 33 = .ok (.invokevirtual 99, 3) := by decide +kernel
theorem dX8_about_36 : decode cX8_about 36 = .ok (.ireturn, 1) := by decide +kernel
set_option maxRecDepth 20000 in
theorem ggX8_invite_X8_isGate : GoodIn wsX8_invite wsX8_isGate := goodIn_r _ [8, 9, 10, 11, 7, 12, 17, 18, 19, 20, 21, 22, 23, 24, 25, 26, 27, 28, 29, 30, 31] (by decide +kernel) (by decide +kernel)
set_option maxRecDepth 20000 in
theorem gX8_invite_X8_isGate : GoodIn wsX8_invite (wsV RX8 125 RX8 yX8_isGate wsX8_isGate) := goodIn_app (goodIn_of _ (by decide +kernel)) ggX8_invite_X8_isGate
set_option maxRecDepth 20000 in
theorem ggX8_invite_X8_no : GoodIn wsX8_invite wsX8_no := goodIn_r _ [16, 1, 17, 18, 19, 20, 21, 22, 23, 24, 25, 26, 27, 28, 29, 30, 31] (by decide +kernel) (by decide +kernel)
set_option maxRecDepth 20000 in
theorem gX8_invite_X8_no : GoodIn wsX8_invite (wsV RX8 99 RX8 yX8_no wsX8_no) := goodIn_app (goodIn_of _ (by decide +kernel)) ggX8_invite_X8_no
theorem dX8_invite_0 : decode cX8_invite 0 = .ok (.aload_n 0, 1) := by decide +kernel
theorem dX8_invite_1 : decode cX8_invite 1 = .ok (.iconst 0, 1) := by decide +kernel
theorem dX8_invite_2 : decode cX8_invite 2 = .ok (.putfield 47, 3) := by decide +kernel
theorem dX8_invite_5 : decode cX8_invite 5 = .ok (.aload_n 0, 1) := by decide +kernel
theorem dX8_invite_6 : decode cX8_invite 6 = .ok (.iload_n 1, 1) := by decide +kernel
theorem dX8_invite_7 : decode cX8_invite 7 = .ok (.invokevirtual 125, 3) := by decide +kernel
theorem dX8_invite_10 : decode cX8_invite 10 = .ok (.ifCond .ne 9, 3) := by decide +kernel
theorem dX8_invite_13 : decode cX8_invite 13 = .ok (.aload_n 0, 1) := by decide +kernel
theorem dX8_invite_14 : decode cX8_invite 14 = .ok (.iconst 1, 1) := by decide +kernel
theorem dX8_invite_15 : decode cX8_invite 15 = .ok (.invokevirtual 99, 3) := by decide +kernel
theorem dX8_invite_18 : decode cX8_invite 18 = .ok (.ireturn, 1) := by decide +kernel
theorem dX8_invite_19 : decode cX8_invite 19 = .ok (.aload_n 0, 1) := by decide +kernel
theorem dX8_invite_20 : decode cX8_invite 20 = .ok (.getfield 58, 3) := by decide +kernel
theorem dX8_invite_23 : decode cX8_invite 23 = .ok (.iconst 5, 1) := by decide +kernel
theorem dX8_invite_24 : decode cX8_invite 24 = .ok (.if_icmp .ne 9, 3) := by decide +kernel
theorem dX8_invite_27 : decode cX8_invite 27 = .ok (.aload_n 0, 1) := by decide +kernel
theorem dX8_invite_28 : decode cX8_invite 28 = .ok (.iconst 2, 1) := by decide +kernel
theorem dX8_invite_29 : decode cX8_invite 29 = .ok (.invokevirtual 99, 3) := by decide +kernel
theorem dX8_invite_32 : decode cX8_invite 32 = .ok (.ireturn, 1) := by decide +kernel
theorem dX8_invite_33 : decode cX8_invite 33 = .ok (.aload_n 0, 1) := by decide +kernel
theorem dX8_invite_34 : decode cX8_invite 34 = .ok (.getfield 34, 3) := by decide +kernel
theorem dX8_invite_37 : decode cX8_invite 37 = .ok (.aload_n 0, 1) := by decide +kernel
theorem dX8_invite_38 : decode cX8_invite 38 = .ok (.getfield 58, 3) := by decide +kernel
theorem dX8_invite_41 : decode cX8_invite 41 = .ok (.iload_n 1, 1) := by decide +kernel
theorem dX8_invite_42 : decode cX8_invite 42 = .ok (.iastore, 1) := by decide +kernel
theorem dX8_invite_43 : decode cX8_invite 43 = .ok (.aload_n 0, 1) := by decide +kernel
theorem dX8_invite_44 : decode cX8_invite 44 = .ok (.dup, 1) := by decide +kernel
theorem dX8_invite_45 : decode cX8_invite 45 = .ok (.getfield 58, 3) := by decide +kernel
theorem dX8_invite_48 : decode cX8_invite 48 = .ok (.iconst 1, 1) := by decide +kernel
theorem dX8_invite_49 : decode cX8_invite 49 = .ok (.iadd, 1) := by decide +kernel
theorem dX8_invite_50 : decode cX8_invite 50 = .ok (.putfield 58, 3) := by decide +kernel
theorem dX8_invite_53 : decode cX8_invite 53 = .ok (.aload_n 0, 1) := by decide +kernel
theorem dX8_invite_54 : decode cX8_invite 54 = .ok (.getfield 58, 3) := by decide +kernel
theorem dX8_invite_57 : decode cX8_invite 57 = .ok (.iconst 1, 1) := by decide +kernel
theorem dX8_invite_58 : decode cX8_invite 58 = .ok (.isub, 1) := by decide +kernel
theorem dX8_invite_59 : decode cX8_invite 59 = .ok (.ireturn, 1) := by decide +kernel
set_option maxRecDepth 20000 in
theorem ggX8_lead_X8_isPoet : GoodIn wsX8_lead wsX8_isPoet := goodIn_r _ [7, 8, 9, 10, 6, 11, 21, 22, 23, 24, 25, 26, 27, 28, 29, 30, 31, 32, 33, 34, 35] (by decide +kernel) (by decide +kernel)
set_option maxRecDepth 20000 in
theorem gX8_lead_X8_isPoet : GoodIn wsX8_lead (wsV RX8 132 RX8 yX8_isPoet wsX8_isPoet) := goodIn_app (goodIn_of _ (by decide +kernel)) ggX8_lead_X8_isPoet
set_option maxRecDepth 20000 in
theorem ggX8_lead_X8_isGate : GoodIn wsX8_lead wsX8_isGate := goodIn_r _ [15, 16, 9, 10, 6, 11, 21, 22, 23, 24, 25, 26, 27, 28, 29, 30, 31, 32, 33, 34, 35] (by decide +kernel) (by decide +kernel)
set_option maxRecDepth 20000 in
theorem gX8_lead_X8_isGate : GoodIn wsX8_lead (wsV RX8 125 RX8 yX8_isGate wsX8_isGate) := goodIn_app (goodIn_of _ (by decide +kernel)) ggX8_lead_X8_isGate
set_option maxRecDepth 20000 in
theorem ggX8_lead_X8_no : GoodIn wsX8_lead wsX8_no := goodIn_r _ [20, 1, 21, 22, 23, 24, 25, 26, 27, 28, 29, 30, 31, 32, 33, 34, 35] (by decide +kernel) (by decide +kernel)
set_option maxRecDepth 20000 in
theorem gX8_lead_X8_no : GoodIn wsX8_lead (wsV RX8 99 RX8 yX8_no wsX8_no) := goodIn_app (goodIn_of _ (by decide +kernel)) ggX8_lead_X8_no
theorem dX8_lead_0 : decode cX8_lead 0 = .ok (.aload_n 0, 1) := by decide +kernel
theorem dX8_lead_1 : decode cX8_lead 1 = .ok (.iconst 0, 1) := by decide +kernel
theorem dX8_lead_2 : decode cX8_lead 2 = .ok (.putfield 47, 3) := by decide +kernel
theorem dX8_lead_5 : decode cX8_lead 5 = .ok (.aload_n 0, 1) := by decide +kernel
theorem dX8_lead_6 : decode cX8_lead 6 = .ok (.iload_n 1, 1) := by decide +kernel
theorem dX8_lead_7 : decode cX8_lead 7 = .ok (.invokevirtual 132, 3) := by decide +kernel
theorem dX8_lead_10 : decode cX8_lead 10 = .ok (.ifCond .eq 11, 3) := by decide +kernel
theorem dX8_lead_13 : decode cX8_lead 13 = .ok (.aload_n 0, 1) := by decide +kernel
theorem dX8_lead_14 : decode cX8_lead 14 = .ok (.iload_n 2, 1) := by decide +kernel
theorem dX8_lead_15 : decode cX8_lead 15 = .ok (.invokevirtual 125, 3) := by decide +kernel
theorem dX8_lead_18 : decode cX8_lead 18 = .ok (.ifCond .ne 9, 3) := by decide +kernel
theorem dX8_lead_21 : decode cX8_lead 21 = .ok (.aload_n 0, 1) := by decide +kernel
theorem dX8_lead_22 : decode cX8_lead 22 = .ok (.iconst 1, 1) := by decide +kernel
theorem dX8_lead_23 : decode cX8_lead 23 = .ok (.invokevirtual 99, 3) := by decide +kernel
theorem dX8_lead_26 : decode cX8_lead 26 = .ok (.ireturn, 1) := by decide +kernel
theorem dX8_lead_27 : decode cX8_lead 27 = .ok (.aload_n 0, 1) := by decide +kernel
theorem dX8_lead_28 : decode cX8_lead 28 = .ok (.getfield 34, 3) := by decide +kernel
theorem dX8_lead_31 : decode cX8_lead 31 = .ok (.iload_n 1, 1) := by decide +kernel
theorem dX8_lead_32 : decode cX8_lead 32 = .ok (.iaload, 1) := by decide +kernel
theorem dX8_lead_33 : decode cX8_lead 33 = .ok (.istore_n 3, 1) := by decide +kernel
theorem dX8_lead_34 : decode cX8_lead 34 = .ok (.aload_n 0, 1) := by decide +kernel
theorem dX8_lead_35 : decode cX8_lead 35 = .ok (.getfield 34, 3) := by decide +kernel
theorem dX8_lead_38 : decode cX8_lead 38 = .ok (.iload_n 1, 1) := by decide +kernel
theorem dX8_lead_39 : decode cX8_lead 39 = .ok (.iload_n 2, 1) := by decide +kernel
theorem dX8_lead_40 : decode cX8_lead 40 = .ok (.iastore, 1) := by decide +kernel
theorem dX8_lead_41 : decode cX8_lead 41 = .ok (.iload_n 3, 1) := by decide +kernel
theorem dX8_lead_42 : decode cX8_lead 42 = .ok (.ireturn, 1) := by decide +kernel
set_option maxRecDepth 20000 in
theorem ggX8_lines_X8_isPoet : GoodIn wsX8_lines wsX8_isPoet := goodIn_r _ [7, 8, 9, 10, 6, 11, 16, 17, 18, 19, 20, 21, 22, 23, 24, 25, 26, 27, 28, 29, 30] (by decide +kernel) (by decide +kernel)
set_option maxRecDepth 20000 in
theorem gX8_lines_X8_isPoet : GoodIn wsX8_lines (wsV RX8 132 RX8 yX8_isPoet wsX8_isPoet) := goodIn_app (goodIn_of _ (by decide +kernel)) ggX8_lines_X8_isPoet
set_option maxRecDepth 20000 in
theorem ggX8_lines_X8_no : GoodIn wsX8_lines wsX8_no := goodIn_r _ [15, 1, 16, 17, 18, 19, 20, 21, 22, 23, 24, 25, 26, 27, 28, 29, 30] (by decide +kernel) (by decide +kernel)
set_option maxRecDepth 20000 in
theorem gX8_lines_X8_no : GoodIn wsX8_lines (wsV RX8 99 RX8 yX8_no wsX8_no) := goodIn_app (goodIn_of _ (by decide +kernel)) ggX8_lines_X8_no
theorem dX8_lines_0 : decode cX8_lines 0 = .ok (.aload_n 0, 1) := by decide +kernel
theorem dX8_lines_1 : decode cX8_lines 1 = .ok (.iconst 0, 1) := by decide +kernel
theorem dX8_lines_2 : decode cX8_lines 2 = .ok (.putfield 47, 3) := by decide +kernel
theorem dX8_lines_5 : decode cX8_lines 5 = .ok (.aload_n 0, 1) := by decide +kernel
theorem dX8_lines_6 : decode cX8_lines 6 = .ok (.iload_n 1, 1) := by decide +kernel
theorem dX8_lines_7 : decode cX8_lines 7 = .ok (.invokevirtual 132, 3) := by decide +kernel
theorem dX8_lines_10 : decode cX8_lines 10 = .ok (.ifCond .eq 15, 3) := by decide +kernel
theorem dX8_lines_13 : decode cX8_lines 13 = .ok (.aload_n 0, 1) := by decide +kernel
theorem dX8_lines_14 : decode cX8_lines 14 = .ok (.getfield 40, 3) := by decide +kernel
theorem dX8_lines_17 : decode cX8_lines 17 = .ok (.getfield 135, 3) := by decide +kernel
theorem dX8_lines_20 : decode cX8_lines 20 = .ok (.iload_n 1, 1) := by decide +kernel
theorem dX8_lines_21 : decode cX8_lines 21 = .ok (.iaload, 1) := by decide +kernel
theorem dX8_lines_22 : decode cX8_lines 22 = .ok (.goto 8, 3) := by decide +kernel
theorem dX8_lines_25 : decode cX8_lines 25 = .ok (.aload_n 0, 1) := by decide +kernel
theorem dX8_lines_26 : decode cX8_lines 26 = .ok (.iconst 1, 1) := by decide +kernel
theorem dX8_lines_27 : decode cX8_lines 27 = .ok (.invokevirtual 99, 3) := by decide +kernel
theorem dX8_lines_30 : decode cX8_lines 30 = .ok (.ireturn, 1) := by decide +kernel
theorem dX8_cellsLike_0 : decode cX8_cellsLike 0 = .ok (.iconst 0, 1) := by decide +kernel
theorem dX8_cellsLike_1 : decode cX8_cellsLike 1 = .ok (.istore_n 2, 1) := by decide +kernel
theorem dX8_cellsLike_2 : decode cX8_cellsLike 2 = .ok (.aload_n 0, 1) := by decide +kernel
theorem dX8_cellsLike_3 : decode cX8_cellsLike 3 = .ok (.getfield 9, 3) := by decide +kernel
theorem dX8_cellsLike_6 : decode cX8_cellsLike 6 = .ok (.astore_n 3, 1) := by decide +kernel
theorem dX8_cellsLike_7 : decode cX8_cellsLike 7 = .ok (.aload_n 3, 1) := by decide +kernel
theorem dX8_cellsLike_8 : decode cX8_cellsLike 8 = .ok (.arraylength, 1) := by decide +kernel
theorem dX8_cellsLike_9 : decode cX8_cellsLike 9 = .ok (.istore 4, 2) := by decide +kernel
theorem dX8_cellsLike_11 : decode cX8_cellsLike 11 = .ok (.iconst 0, 1) := by decide +kernel
theorem dX8_cellsLike_12 : decode cX8_cellsLike 12 = .ok (.istore 5, 2) := by decide +kernel
theorem dX8_cellsLike_14 : decode cX8_cellsLike 14 = .ok (.iload 5, 2) := by decide +kernel
theorem dX8_cellsLike_16 : decode cX8_cellsLike 16 = .ok (.iload 4, 2) := by decide +kernel
theorem dX8_cellsLike_18 : decode cX8_cellsLike 18 = .ok (.if_icmp .ge 29, 3) := by decide +kernel
theorem dX8_cellsLike_21 : decode cX8_cellsLike 21 = .ok (.aload_n 3, 1) := by decide +kernel
theorem dX8_cellsLike_22 : decode cX8_cellsLike 22 = .ok (.iload 5, 2) := by decide +kernel
theorem dX8_cellsLike_24 : decode cX8_cellsLike 24 = .ok (.iaload, 1) := by decide +kernel
theorem dX8_cellsLike_25 : decode cX8_cellsLike 25 = .ok (.istore 6, 2) := by decide +kernel
theorem dX8_cellsLike_27 : decode cX8_cellsLike 27 = .ok (.iload_n 2, 1) := by decide +kernel
theorem dX8_cellsLike_28 : decode cX8_cellsLike 28 = .ok (.iload 6, 2) := by decide +kernel
theorem dX8_cellsLike_30 : decode cX8_cellsLike 30 = .ok (.iload_n 1, 1) := by decide +kernel
theorem dX8_cellsLike_31 : decode cX8_cellsLike 31 = .ok (.if_icmp .ne 7, 3) := by decide +kernel
theorem dX8_cellsLike_34 : decode cX8_cellsLike 34 = .ok (.iconst 1, 1) := by decide +kernel
theorem dX8_cellsLike_35 : decode cX8_cellsLike 35 = .ok (.goto 4, 3) := by decide +kernel
theorem dX8_cellsLike_38 : decode cX8_cellsLike 38 = .ok (.iconst 0, 1) := by decide +kernel
theorem dX8_cellsLike_39 : decode cX8_cellsLike 39 = .ok (.iadd, 1) := by decide +kernel
theorem dX8_cellsLike_40 : decode cX8_cellsLike 40 = .ok (.istore_n 2, 1) := by decide +kernel
theorem dX8_cellsLike_41 : decode cX8_cellsLike 41 = .ok (.iinc 5 1, 3) := by decide +kernel
theorem dX8_cellsLike_44 : decode cX8_cellsLike 44 = .ok (.goto (-30), 3) := by decide +kernel
theorem dX8_cellsLike_47 : decode cX8_cellsLike 47 = .ok (.iload_n 2, 1) := by decide +kernel
theorem dX8_cellsLike_48 : decode cX8_cellsLike 48 = .ok (.ireturn, 1) := by decide +kernel
theorem dX8_written_0 : decode cX8_written 0 = .ok (.iconst 0, 1) := by decide +kernel
theorem dX8_written_1 : decode cX8_written 1 = .ok (.istore_n 2, 1) := by decide +kernel
theorem dX8_written_2 : decode cX8_written 2 = .ok (.iconst 0, 1) := by decide +kernel
theorem dX8_written_3 : decode cX8_written 3 = .ok (.istore_n 3, 1) := by decide +kernel
theorem dX8_written_4 : decode cX8_written 4 = .ok (.iload_n 3, 1) := by decide +kernel
theorem dX8_written_5 : decode cX8_written 5 = .ok (.aload_n 0, 1) := by decide +kernel
theorem dX8_written_6 : decode cX8_written 6 = .ok (.getfield 58, 3) := by decide +kernel
theorem dX8_written_9 : decode cX8_written 9 = .ok (.if_icmp .ge 18, 3) := by decide +kernel
theorem dX8_written_12 : decode cX8_written 12 = .ok (.iload_n 2, 1) := by decide +kernel
theorem dX8_written_13 : decode cX8_written 13 = .ok (.aload_n 1, 1) := by decide +kernel
theorem dX8_written_14 : decode cX8_written 14 = .ok (.getfield 135, 3) := by decide +kernel
theorem dX8_written_17 : decode cX8_written 17 = .ok (.iload_n 3, 1) := by decide +kernel
theorem dX8_written_18 : decode cX8_written 18 = .ok (.iaload, 1) := by decide +kernel
theorem dX8_written_19 : decode cX8_written 19 = .ok (.iadd, 1) := by decide +kernel
theorem dX8_written_20 : decode cX8_written 20 = .ok (.istore_n 2, 1) := by decide +kernel
theorem dX8_written_21 : decode cX8_written 21 = .ok (.iinc 3 1, 3) := by decide +kernel
theorem dX8_written_24 : decode cX8_written 24 = .ok (.goto (-20), 3) := by decide +kernel
theorem dX8_written_27 : decode cX8_written 27 = .ok (.iload_n 2, 1) := by decide +kernel
theorem dX8_written_28 : decode cX8_written 28 = .ok (.ireturn, 1) := by decide +kernel
theorem dX8_sizes_0 : decode cX8_sizes 0 = .ok (.iconst 0, 1) := by decide +kernel
theorem dX8_sizes_1 : decode cX8_sizes 1 = .ok (.istore_n 2, 1) := by decide +kernel
theorem dX8_sizes_2 : decode cX8_sizes 2 = .ok (.iconst 0, 1) := by decide +kernel
theorem dX8_sizes_3 : decode cX8_sizes 3 = .ok (.istore_n 3, 1) := by decide +kernel
theorem dX8_sizes_4 : decode cX8_sizes 4 = .ok (.iload_n 3, 1) := by decide +kernel
theorem dX8_sizes_5 : decode cX8_sizes 5 = .ok (.aload_n 0, 1) := by decide +kernel
theorem dX8_sizes_6 : decode cX8_sizes 6 = .ok (.getfield 71, 3) := by decide +kernel
theorem dX8_sizes_9 : decode cX8_sizes 9 = .ok (.if_icmp .ge 31, 3) := by decide +kernel
theorem dX8_sizes_12 : decode cX8_sizes 12 = .ok (.iload_n 2, 1) := by decide +kernel
theorem dX8_sizes_13 : decode cX8_sizes 13 = .ok (.aload_n 0, 1) := by decide +kernel
theorem dX8_sizes_14 : decode cX8_sizes 14 = .ok (.getfield 25, 3) := by decide +kernel
theorem dX8_sizes_17 : decode cX8_sizes 17 = .ok (.iload_n 3, 1) := by decide +kernel
theorem dX8_sizes_18 : decode cX8_sizes 18 = .ok (.iaload, 1) := by decide +kernel
theorem dX8_sizes_19 : decode cX8_sizes 19 = .ok (.ifCond .ne 12, 3) := by decide +kernel
theorem dX8_sizes_22 : decode cX8_sizes 22 = .ok (.aload_n 1, 1) := by decide +kernel
theorem dX8_sizes_23 : decode cX8_sizes 23 = .ok (.getfield 93, 3) := by decide +kernel
theorem dX8_sizes_26 : decode cX8_sizes 26 = .ok (.iload_n 3, 1) := by decide +kernel
theorem dX8_sizes_27 : decode cX8_sizes 27 = .ok (.iaload, 1) := by decide +kernel
theorem dX8_sizes_28 : decode cX8_sizes 28 = .ok (.goto 4, 3) := by decide +kernel
theorem dX8_sizes_31 : decode cX8_sizes 31 = .ok (.iconst 0, 1) := by decide +kernel
theorem dX8_sizes_32 : decode cX8_sizes 32 = .ok (.iadd, 1) := by decide +kernel
theorem dX8_sizes_33 : decode cX8_sizes 33 = .ok (.istore_n 2, 1) := by decide +kernel
theorem dX8_sizes_34 : decode cX8_sizes 34 = .ok (.iinc 3 1, 3) := by decide +kernel
theorem dX8_sizes_37 : decode cX8_sizes 37 = .ok (.goto (-33), 3) := by decide +kernel
theorem dX8_sizes_40 : decode cX8_sizes 40 = .ok (.iload_n 2, 1) := by decide +kernel
theorem dX8_sizes_41 : decode cX8_sizes 41 = .ok (.ireturn, 1) := by decide +kernel
set_option maxRecDepth 20000 in
theorem ggX8_counted_X8_cellsLike : GoodIn wsX8_counted wsX8_cellsLike := goodIn_r _ [12, 13, 22, 23, 24, 25, 26, 27, 28, 29, 30, 31, 32, 33, 34, 35, 36] (by decide +kernel) (by decide +kernel)
set_option maxRecDepth 20000 in
theorem gX8_counted_X8_cellsLike : GoodIn wsX8_counted (wsV RX8 141 RX8 yX8_cellsLike wsX8_cellsLike) := goodIn_app (goodIn_of _ (by decide +kernel)) ggX8_counted_X8_cellsLike
set_option maxRecDepth 20000 in
theorem ggX8_counted_X8_sizes : GoodIn wsX8_counted wsX8_sizes := goodIn_r _ [17, 2, 3, 22, 23, 24, 25, 26, 27, 28, 29, 30, 31, 32, 33, 34, 35, 36, 37, 38, 39, 40] (by decide +kernel) (by decide +kernel)
set_option maxRecDepth 20000 in
theorem gX8_counted_X8_sizes : GoodIn wsX8_counted (wsV RX8 144 RX8 yX8_sizes wsX8_sizes) := goodIn_app (goodIn_of _ (by decide +kernel)) ggX8_counted_X8_sizes
set_option maxRecDepth 20000 in
theorem ggX8_counted_X8_written : GoodIn wsX8_counted wsX8_written := goodIn_r _ [21, 7, 22, 23, 24, 25, 26, 27, 28, 29, 30, 31, 32, 33, 34, 35, 36, 37, 38, 39, 40] (by decide +kernel) (by decide +kernel)
set_option maxRecDepth 20000 in
theorem gX8_counted_X8_written : GoodIn wsX8_counted (wsV RX8 148 RX8 yX8_written wsX8_written) := goodIn_app (goodIn_of _ (by decide +kernel)) ggX8_counted_X8_written
theorem dX8_counted_0 : decode cX8_counted 0 = .ok (.iconst 0, 1) := by decide +kernel
theorem dX8_counted_1 : decode cX8_counted 1 = .ok (.istore_n 2, 1) := by decide +kernel
theorem dX8_counted_2 : decode cX8_counted 2 = .ok (.iconst 0, 1) := by decide +kernel
theorem dX8_counted_3 : decode cX8_counted 3 = .ok (.istore_n 3, 1) := by decide +kernel
theorem dX8_counted_4 : decode cX8_counted 4 = .ok (.iconst 0, 1) := by decide +kernel
theorem dX8_counted_5 : decode cX8_counted 5 = .ok (.istore 4, 2) := by decide +kernel
theorem dX8_counted_7 : decode cX8_counted 7 = .ok (.iload 4, 2) := by decide +kernel
theorem dX8_counted_9 : decode cX8_counted 9 = .ok (.bipush 70, 2) := by decide +kernel
theorem dX8_counted_11 : decode cX8_counted 11 = .ok (.if_icmp .ge 29, 3) := by decide +kernel
theorem dX8_counted_14 : decode cX8_counted 14 = .ok (.iload_n 2, 1) := by decide +kernel
theorem dX8_counted_15 : decode cX8_counted 15 = .ok (.aload_n 0, 1) := by decide +kernel
theorem dX8_counted_16 : decode cX8_counted 16 = .ok (.getfield 19, 3) := by decide +kernel
theorem dX8_counted_19 : decode cX8_counted 19 = .ok (.iload 4, 2) := by decide +kernel
theorem dX8_counted_21 : decode cX8_counted 21 = .ok (.iaload, 1) := by decide +kernel
theorem dX8_counted_22 : decode cX8_counted 22 = .ok (.iload 4, 2) := by decide +kernel
theorem dX8_counted_24 : decode cX8_counted 24 = .ok (.if_icmp .ne 7, 3) := by decide +kernel
theorem dX8_counted_27 : decode cX8_counted 27 = .ok (.iconst 1, 1) := by decide +kernel
theorem dX8_counted_28 : decode cX8_counted 28 = .ok (.goto 4, 3) := by decide +kernel
theorem dX8_counted_31 : decode cX8_counted 31 = .ok (.iconst 0, 1) := by decide +kernel
theorem dX8_counted_32 : decode cX8_counted 32 = .ok (.iadd, 1) := by decide +kernel
theorem dX8_counted_33 : decode cX8_counted 33 = .ok (.istore_n 2, 1) := by decide +kernel
theorem dX8_counted_34 : decode cX8_counted 34 = .ok (.iinc 4 1, 3) := by decide +kernel
theorem dX8_counted_37 : decode cX8_counted 37 = .ok (.goto (-30), 3) := by decide +kernel
theorem dX8_counted_40 : decode cX8_counted 40 = .ok (.iconst 0, 1) := by decide +kernel
theorem dX8_counted_41 : decode cX8_counted 41 = .ok (.istore 4, 2) := by decide +kernel
theorem dX8_counted_43 : decode cX8_counted 43 = .ok (.iload 4, 2) := by decide +kernel
theorem dX8_counted_45 : decode cX8_counted 45 = .ok (.aload_n 0, 1) := by decide +kernel
theorem dX8_counted_46 : decode cX8_counted 46 = .ok (.getfield 71, 3) := by decide +kernel
theorem dX8_counted_49 : decode cX8_counted 49 = .ok (.if_icmp .ge 21, 3) := by decide +kernel
theorem dX8_counted_52 : decode cX8_counted 52 = .ok (.iload_n 3, 1) := by decide +kernel
theorem dX8_counted_53 : decode cX8_counted 53 = .ok (.iconst 1, 1) := by decide +kernel
theorem dX8_counted_54 : decode cX8_counted 54 = .ok (.aload_n 0, 1) := by decide +kernel
theorem dX8_counted_55 : decode cX8_counted 55 = .ok (.getfield 25, 3) := by decide +kernel
theorem dX8_counted_58 : decode cX8_counted 58 = .ok (.iload 4, 2) := by decide +kernel
theorem dX8_counted_60 : decode cX8_counted 60 = .ok (.iaload, 1) := by decide +kernel
theorem dX8_counted_61 : decode cX8_counted 61 = .ok (.isub, 1) := by decide +kernel
theorem dX8_counted_62 : decode cX8_counted 62 = .ok (.iadd, 1) := by decide +kernel
theorem dX8_counted_63 : decode cX8_counted 63 = .ok (.istore_n 3, 1) := by decide +kernel
theorem dX8_counted_64 : decode cX8_counted 64 = .ok (.iinc 4 1, 3) := by decide +kernel
theorem dX8_counted_67 : decode cX8_counted 67 = .ok (.goto (-24), 3) := by decide +kernel
theorem dX8_counted_70 : decode cX8_counted 70 = .ok (.bipush 11, 2) := by decide +kernel
theorem dX8_counted_72 : decode cX8_counted 72 = .ok (.newarray .int, 2) := by decide +kernel
theorem dX8_counted_74 : decode cX8_counted 74 = .ok (.dup, 1) := by decide +kernel
theorem dX8_counted_75 : decode cX8_counted 75 = .ok (.iconst 0, 1) := by decide +kernel
theorem dX8_counted_76 : decode cX8_counted 76 = .ok (.aload_n 0, 1) := by decide +kernel
theorem dX8_counted_77 : decode cX8_counted 77 = .ok (.getfield 40, 3) := by decide +kernel
theorem dX8_counted_80 : decode cX8_counted 80 = .ok (.getfield 138, 3) := by decide +kernel
theorem dX8_counted_83 : decode cX8_counted 83 = .ok (.iastore, 1) := by decide +kernel
theorem dX8_counted_84 : decode cX8_counted 84 = .ok (.dup, 1) := by decide +kernel
theorem dX8_counted_85 : decode cX8_counted 85 = .ok (.iconst 1, 1) := by decide +kernel
theorem dX8_counted_86 : decode cX8_counted 86 = .ok (.aload_n 0, 1) := by decide +kernel
theorem dX8_counted_87 : decode cX8_counted 87 = .ok (.getfield 40, 3) := by decide +kernel
theorem dX8_counted_90 : decode cX8_counted 90 = .ok (.getfield 138, 3) := by decide +kernel
theorem dX8_counted_93 : decode cX8_counted 93 = .ok (.bipush 8, 2) := by decide +kernel
theorem dX8_counted_95 : decode cX8_counted 95 = .ok (.irem, 1) := by decide +kernel
theorem dX8_counted_96 : decode cX8_counted 96 = .ok (.iconst 4, 1) := by decide +kernel
theorem dX8_counted_97 : decode cX8_counted 97 = .ok (.if_icmp .ne 7, 3) := by decide +kernel
theorem dX8_counted_100 : decode cX8_counted 100 = .ok (.iconst 1, 1) := by decide +kernel
theorem dX8_counted_101 : decode cX8_counted 101 = .ok (.goto 4, 3) := by decide +kernel
theorem dX8_counted_104 : decode cX8_counted 104 = .ok (.iconst 0, 1) := by decide +kernel
theorem dX8_counted_105 : decode cX8_counted 105 = .ok (.iastore, 1) := by decide +kernel
theorem dX8_counted_106 : decode cX8_counted 106 = .ok (.dup, 1) := by decide +kernel
theorem dX8_counted_107 : decode cX8_counted 107 = .ok (.iconst 2, 1) := by decide +kernel
theorem dX8_counted_108 : decode cX8_counted 108 = .ok (.aload_n 0, 1) := by decide +kernel
theorem dX8_counted_109 : decode cX8_counted 109 = .ok (.getfield 40, 3) := by decide +kernel
theorem dX8_counted_112 : decode cX8_counted 112 = .ok (.getfield 96, 3) := by decide +kernel
theorem dX8_counted_115 : decode cX8_counted 115 = .ok (.iastore, 1) := by decide +kernel
theorem dX8_counted_116 : decode cX8_counted 116 = .ok (.dup, 1) := by decide +kernel
theorem dX8_counted_117 : decode cX8_counted 117 = .ok (.iconst 3, 1) := by decide +kernel
theorem dX8_counted_118 : decode cX8_counted 118 = .ok (.aload_n 0, 1) := by decide +kernel
theorem dX8_counted_119 : decode cX8_counted 119 = .ok (.iconst 1, 1) := by decide +kernel
theorem dX8_counted_120 : decode cX8_counted 120 = .ok (.invokevirtual 141, 3) := by decide +kernel
theorem dX8_counted_123 : decode cX8_counted 123 = .ok (.iastore, 1) := by decide +kernel
theorem dX8_counted_124 : decode cX8_counted 124 = .ok (.dup, 1) := by decide +kernel
theorem dX8_counted_125 : decode cX8_counted 125 = .ok (.iconst 4, 1) := by decide +kernel
theorem dX8_counted_126 : decode cX8_counted 126 = .ok (.aload_n 0, 1) := by decide +kernel
theorem dX8_counted_127 : decode cX8_counted 127 = .ok (.iconst 2, 1) := by decide +kernel
theorem dX8_counted_128 : decode cX8_counted 128 = .ok (.invokevirtual 141, 3) := by decide +kernel
theorem dX8_counted_131 : decode cX8_counted 131 = .ok (.iastore, 1) := by decide +kernel
theorem dX8_counted_132 : decode cX8_counted 132 = .ok (.dup, 1) := by decide +kernel
theorem dX8_counted_133 : decode cX8_counted 133 = .ok (.iconst 5, 1) := by decide +kernel
theorem dX8_counted_134 : decode cX8_counted 134 = .ok (.iload_n 2, 1) := by decide +kernel
theorem dX8_counted_135 : decode cX8_counted 135 = .ok (.iastore, 1) := by decide +kernel
theorem dX8_counted_136 : decode cX8_counted 136 = .ok (.dup, 1) := by decide +kernel
theorem dX8_counted_137 : decode cX8_counted 137 = .ok (.bipush 6, 2) := by decide +kernel
theorem dX8_counted_139 : decode cX8_counted 139 = .ok (.iload_n 3, 1) := by decide +kernel
theorem dX8_counted_140 : decode cX8_counted 140 = .ok (.iastore, 1) := by decide +kernel
theorem dX8_counted_141 : decode cX8_counted 141 = .ok (.dup, 1) := by decide +kernel
theorem dX8_counted_142 : decode cX8_counted 142 = .ok (.bipush 7, 2) := by decide +kernel
theorem dX8_counted_144 : decode cX8_counted 144 = .ok (.aload_n 0, 1) := by decide +kernel
theorem dX8_counted_145 : decode cX8_counted 145 = .ok (.aload_n 0, 1) := by decide +kernel
theorem dX8_counted_146 : decode cX8_counted 146 = .ok (.getfield 40, 3) := by decide +kernel
theorem dX8_counted_149 : decode cX8_counted 149 = .ok (.invokevirtual 144, 3) := by decide +kernel
theorem dX8_counted_152 : decode cX8_counted 152 = .ok (.iastore, 1) := by decide +kernel
theorem dX8_counted_153 : decode cX8_counted 153 = .ok (.dup, 1) := by decide +kernel
theorem dX8_counted_154 : decode cX8_counted 154 = .ok (.bipush 8, 2) := by decide +kernel
theorem dX8_counted_156 : decode cX8_counted 156 = .ok (.aload_n 0, 1) := by decide +kernel
theorem dX8_counted_157 : decode cX8_counted 157 = .ok (.getfield 55, 3) := by decide +kernel
theorem dX8_counted_160 : decode cX8_counted 160 = .ok (.iastore, 1) := by decide +kernel
theorem dX8_counted_161 : decode cX8_counted 161 = .ok (.dup, 1) := by decide +kernel
theorem dX8_counted_162 : decode cX8_counted 162 = .ok (.bipush 9, 2) := by decide +kernel
theorem dX8_counted_164 : decode cX8_counted 164 = .ok (.aload_n 0, 1) := by decide +kernel
theorem dX8_counted_165 : decode cX8_counted 165 = .ok (.getfield 58, 3) := by decide +kernel
theorem dX8_counted_168 : decode cX8_counted 168 = .ok (.iastore, 1) := by decide +kernel
theorem dX8_counted_169 : decode cX8_counted 169 = .ok (.dup, 1) := by decide +kernel
theorem dX8_counted_170 : decode cX8_counted 170 = .ok (.bipush 10, 2) := by decide +kernel
theorem dX8_counted_172 : decode cX8_counted 172 = .ok (.aload_n 0, 1) := by decide +kernel
theorem dX8_counted_173 : decode cX8_counted 173 = .ok (.aload_n 0, 1) := by decide +kernel
theorem dX8_counted_174 : decode cX8_counted 174 = .ok (.getfield 40, 3) := by decide +kernel
theorem dX8_counted_177 : decode cX8_counted 177 = .ok (.invokevirtual 148, 3) := by decide +kernel
theorem dX8_counted_180 : decode cX8_counted 180 = .ok (.iastore, 1) := by decide +kernel
theorem dX8_counted_181 : decode cX8_counted 181 = .ok (.astore 4, 2) := by decide +kernel
theorem dX8_counted_183 : decode cX8_counted 183 = .ok (.aload 4, 2) := by decide +kernel
theorem dX8_counted_185 : decode cX8_counted 185 = .ok (.iload_n 1, 1) := by decide +kernel
theorem dX8_counted_186 : decode cX8_counted 186 = .ok (.iaload, 1) := by decide +kernel
theorem dX8_counted_187 : decode cX8_counted 187 = .ok (.ireturn, 1) := by decide +kernel
set_option maxRecDepth 20000 in
theorem ggX8_count_X8_isIn : GoodIn wsX8_count wsX8_isIn := goodIn_r _ [5] (by decide +kernel) (by decide +kernel)
set_option maxRecDepth 20000 in
theorem gX8_count_X8_isIn : GoodIn wsX8_count (va_wsS RX8 51 yX8_isIn wsX8_isIn) := goodIn_app (goodIn_of _ (by decide +kernel)) ggX8_count_X8_isIn
set_option maxRecDepth 20000 in
theorem ggX8_count_X8_no : GoodIn wsX8_count wsX8_no := goodIn_r _ [9, 1, 45, 46, 47, 48, 49, 50, 51, 52, 53, 54, 55, 56, 57, 58, 59] (by decide +kernel) (by decide +kernel)
set_option maxRecDepth 20000 in
theorem gX8_count_X8_no : GoodIn wsX8_count (wsV RX8 99 RX8 yX8_no wsX8_no) := goodIn_app (goodIn_of _ (by decide +kernel)) ggX8_count_X8_no
set_option maxRecDepth 20000 in
theorem ggX8_count_X8_markPonds : GoodIn wsX8_count wsX8_markPonds := goodIn_r _ [13, 14, 15, 16, 17, 4, 18, 19, 20, 21, 22, 45, 46, 47, 48, 49, 50, 51, 52, 53, 54, 55, 56, 57, 58, 59] (by decide +kernel) (by decide +kernel)
set_option maxRecDepth 20000 in
theorem gX8_count_X8_markPonds : GoodIn wsX8_count (wsV RX8 109 RX8 yX8_markPonds wsX8_markPonds) := goodIn_app (goodIn_of _ (by decide +kernel)) ggX8_count_X8_markPonds
set_option maxRecDepth 20000 in
theorem ggX8_count_X8_counted : GoodIn wsX8_count wsX8_counted := goodIn_r _ [26, 14, 27, 28, 29, 30, 31, 32, 33, 34, 35, 4, 36, 15, 37, 38, 39, 40, 41, 42, 43, 44, 45, 46, 47, 48, 49, 50, 51, 52, 53, 54, 55, 56, 57, 58, 59, 60, 61, 62, 63] (by decide +kernel) (by decide +kernel)
set_option maxRecDepth 20000 in
theorem gX8_count_X8_counted : GoodIn wsX8_count (wsV RX8 151 RX8 yX8_counted wsX8_counted) := goodIn_app (goodIn_of _ (by decide +kernel)) ggX8_count_X8_counted
theorem dX8_count_0 : decode cX8_count 0 = .ok (.aload_n 0, 1) := by decide +kernel
theorem dX8_count_1 : decode cX8_count 1 = .ok (.iconst 0, 1) := by decide +kernel
theorem dX8_count_2 : decode cX8_count 2 = .ok (.putfield 47, 3) := by decide +kernel
theorem dX8_count_5 : decode cX8_count 5 = .ok (.iload_n 1, 1) := by decide +kernel
theorem dX8_count_6 : decode cX8_count 6 = .ok (.iconst 0, 1) := by decide +kernel
theorem dX8_count_7 : decode cX8_count 7 = .ok (.bipush 10, 2) := by decide +kernel
theorem dX8_count_9 : decode cX8_count 9 = .ok (.invokestatic 51, 3) := by decide +kernel
theorem dX8_count_12 : decode cX8_count 12 = .ok (.ifCond .ne 9, 3) := by decide +kernel
theorem dX8_count_15 : decode cX8_count 15 = .ok (.aload_n 0, 1) := by decide +kernel
theorem dX8_count_16 : decode cX8_count 16 = .ok (.iconst 1, 1) := by decide +kernel
theorem dX8_count_17 : decode cX8_count 17 = .ok (.invokevirtual 99, 3) := by decide +kernel
theorem dX8_count_20 : decode cX8_count 20 = .ok (.ireturn, 1) := by decide +kernel
theorem dX8_count_21 : decode cX8_count 21 = .ok (.aload_n 0, 1) := by decide +kernel
theorem dX8_count_22 : decode cX8_count 22 = .ok (.invokevirtual 109, 3) := by decide +kernel
theorem dX8_count_25 : decode cX8_count 25 = .ok (.aload_n 0, 1) := by decide +kernel
theorem dX8_count_26 : decode cX8_count 26 = .ok (.iload_n 1, 1) := by decide +kernel
theorem dX8_count_27 : decode cX8_count 27 = .ok (.invokevirtual 151, 3) := by decide +kernel
theorem dX8_count_30 : decode cX8_count 30 = .ok (.ireturn, 1) := by decide +kernel
set_option maxRecDepth 20000 in
theorem ggX8_day_X8_isTooFull : GoodIn wsX8_day wsX8_isTooFull := goodIn_r _ [18, 19, 20, 21, 17, 22, 1, 2, 3, 4, 23, 24, 25, 26, 48, 49, 50, 51, 52, 53, 54, 55, 56, 57, 58, 59, 60, 61, 62] (by decide +kernel) (by decide +kernel)
set_option maxRecDepth 20000 in
theorem gX8_day_X8_isTooFull : GoodIn wsX8_day (wsV RX8 154 RX8 yX8_isTooFull wsX8_isTooFull) := goodIn_app (goodIn_of _ (by decide +kernel)) ggX8_day_X8_isTooFull
set_option maxRecDepth 20000 in
theorem ggX8_day_X8_beauty : GoodIn wsX8_day wsX8_beauty := goodIn_r _ [30, 31, 32, 33, 1, 2, 4, 34, 35, 36, 17, 37, 38, 39, 40, 41, 42, 43, 44, 45, 46, 47, 48, 49, 50, 51, 52, 53, 54, 55, 56, 57, 58, 59, 60, 61, 62, 63, 64, 65, 66] (by decide +kernel) (by decide +kernel)
set_option maxRecDepth 20000 in
theorem gX8_day_X8_beauty : GoodIn wsX8_day (wsV RX8 121 RX8 yX8_beauty wsX8_beauty) := goodIn_app (goodIn_of _ (by decide +kernel)) ggX8_day_X8_beauty
theorem dX8_day_0 : decode cX8_day 0 = .ok (.iconst 0, 1) := by decide +kernel
theorem dX8_day_1 : decode cX8_day 1 = .ok (.istore_n 2, 1) := by decide +kernel
theorem dX8_day_2 : decode cX8_day 2 = .ok (.iload_n 2, 1) := by decide +kernel
theorem dX8_day_3 : decode cX8_day 3 = .ok (.aload_n 0, 1) := by decide +kernel
theorem dX8_day_4 : decode cX8_day 4 = .ok (.getfield 71, 3) := by decide +kernel
theorem dX8_day_7 : decode cX8_day 7 = .ok (.if_icmp .ge 70, 3) := by decide +kernel
theorem dX8_day_10 : decode cX8_day 10 = .ok (.aload_n 0, 1) := by decide +kernel
theorem dX8_day_11 : decode cX8_day 11 = .ok (.getfield 25, 3) := by decide +kernel
theorem dX8_day_14 : decode cX8_day 14 = .ok (.iload_n 2, 1) := by decide +kernel
theorem dX8_day_15 : decode cX8_day 15 = .ok (.iaload, 1) := by decide +kernel
theorem dX8_day_16 : decode cX8_day 16 = .ok (.ifCond .ne 55, 3) := by decide +kernel
theorem dX8_day_19 : decode cX8_day 19 = .ok (.aload_n 1, 1) := by decide +kernel
theorem dX8_day_20 : decode cX8_day 20 = .ok (.getfield 93, 3) := by decide +kernel
theorem dX8_day_23 : decode cX8_day 23 = .ok (.iload_n 2, 1) := by decide +kernel
theorem dX8_day_24 : decode cX8_day 24 = .ok (.aload_n 0, 1) := by decide +kernel
theorem dX8_day_25 : decode cX8_day 25 = .ok (.aload_n 0, 1) := by decide +kernel
theorem dX8_day_26 : decode cX8_day 26 = .ok (.getfield 19, 3) := by decide +kernel
theorem dX8_day_29 : decode cX8_day 29 = .ok (.aload_n 0, 1) := by decide +kernel
theorem dX8_day_30 : decode cX8_day 30 = .ok (.getfield 22, 3) := by decide +kernel
theorem dX8_day_33 : decode cX8_day 33 = .ok (.iload_n 2, 1) := by decide +kernel
theorem dX8_day_34 : decode cX8_day 34 = .ok (.iaload, 1) := by decide +kernel
theorem dX8_day_35 : decode cX8_day 35 = .ok (.iaload, 1) := by decide +kernel
theorem dX8_day_36 : decode cX8_day 36 = .ok (.invokevirtual 154, 3) := by decide +kernel
theorem dX8_day_39 : decode cX8_day 39 = .ok (.ifCond .eq 18, 3) := by decide +kernel
theorem dX8_day_42 : decode cX8_day 42 = .ok (.iconst 1, 1) := by decide +kernel
theorem dX8_day_43 : decode cX8_day 43 = .ok (.aload_n 1, 1) := by decide +kernel
theorem dX8_day_44 : decode cX8_day 44 = .ok (.getfield 93, 3) := by decide +kernel
theorem dX8_day_47 : decode cX8_day 47 = .ok (.iload_n 2, 1) := by decide +kernel
theorem dX8_day_48 : decode cX8_day 48 = .ok (.iaload, 1) := by decide +kernel
theorem dX8_day_49 : decode cX8_day 49 = .ok (.iconst 1, 1) := by decide +kernel
theorem dX8_day_50 : decode cX8_day 50 = .ok (.isub, 1) := by decide +kernel
theorem dX8_day_51 : decode cX8_day 51 = .ok (.invokestatic 157, 3) := by decide +kernel
theorem dX8_day_54 : decode cX8_day 54 = .ok (.goto 16, 3) := by decide +kernel
theorem dX8_day_57 : decode cX8_day 57 = .ok (.bipush 40, 2) := by decide +kernel
theorem dX8_day_59 : decode cX8_day 59 = .ok (.aload_n 1, 1) := by decide +kernel
theorem dX8_day_60 : decode cX8_day 60 = .ok (.getfield 93, 3) := by decide +kernel
theorem dX8_day_63 : decode cX8_day 63 = .ok (.iload_n 2, 1) := by decide +kernel
theorem dX8_day_64 : decode cX8_day 64 = .ok (.iaload, 1) := by decide +kernel
theorem dX8_day_65 : decode cX8_day 65 = .ok (.iconst 1, 1) := by decide +kernel
theorem dX8_day_66 : decode cX8_day 66 = .ok (.iadd, 1) := by decide +kernel
theorem dX8_day_67 : decode cX8_day 67 = .ok (.invokestatic 160, 3) := by decide +kernel
theorem dX8_day_70 : decode cX8_day 70 = .ok (.iastore, 1) := by decide +kernel
theorem dX8_day_71 : decode cX8_day 71 = .ok (.iinc 2 1, 3) := by decide +kernel
theorem dX8_day_74 : decode cX8_day 74 = .ok (.goto (-72), 3) := by decide +kernel
theorem dX8_day_77 : decode cX8_day 77 = .ok (.iconst 0, 1) := by decide +kernel
theorem dX8_day_78 : decode cX8_day 78 = .ok (.istore_n 2, 1) := by decide +kernel
theorem dX8_day_79 : decode cX8_day 79 = .ok (.iconst 0, 1) := by decide +kernel
theorem dX8_day_80 : decode cX8_day 80 = .ok (.istore_n 3, 1) := by decide +kernel
theorem dX8_day_81 : decode cX8_day 81 = .ok (.iload_n 3, 1) := by decide +kernel
theorem dX8_day_82 : decode cX8_day 82 = .ok (.aload_n 0, 1) := by decide +kernel
theorem dX8_day_83 : decode cX8_day 83 = .ok (.getfield 58, 3) := by decide +kernel
theorem dX8_day_86 : decode cX8_day 86 = .ok (.if_icmp .ge 57, 3) := by decide +kernel
theorem dX8_day_89 : decode cX8_day 89 = .ok (.aload_n 0, 1) := by decide +kernel
theorem dX8_day_90 : decode cX8_day 90 = .ok (.aload_n 0, 1) := by decide +kernel
theorem dX8_day_91 : decode cX8_day 91 = .ok (.getfield 34, 3) := by decide +kernel
theorem dX8_day_94 : decode cX8_day 94 = .ok (.iload_n 3, 1) := by decide +kernel
theorem dX8_day_95 : decode cX8_day 95 = .ok (.iaload, 1) := by decide +kernel
theorem dX8_day_96 : decode cX8_day 96 = .ok (.aload_n 1, 1) := by decide +kernel
theorem dX8_day_97 : decode cX8_day 97 = .ok (.invokevirtual 121, 3) := by decide +kernel
theorem dX8_day_100 : decode cX8_day 100 = .ok (.iconst 5, 1) := by decide +kernel
theorem dX8_day_101 : decode cX8_day 101 = .ok (.idiv, 1) := by decide +kernel
theorem dX8_day_102 : decode cX8_day 102 = .ok (.aload_n 1, 1) := by decide +kernel
theorem dX8_day_103 : decode cX8_day 103 = .ok (.getfield 138, 3) := by decide +kernel
theorem dX8_day_106 : decode cX8_day 106 = .ok (.bipush 8, 2) := by decide +kernel
theorem dX8_day_108 : decode cX8_day 108 = .ok (.irem, 1) := by decide +kernel
theorem dX8_day_109 : decode cX8_day 109 = .ok (.iconst 4, 1) := by decide +kernel
theorem dX8_day_110 : decode cX8_day 110 = .ok (.if_icmp .ne 7, 3) := by decide +kernel
theorem dX8_day_113 : decode cX8_day 113 = .ok (.iconst 2, 1) := by decide +kernel
theorem dX8_day_114 : decode cX8_day 114 = .ok (.goto 4, 3) := by decide +kernel
theorem dX8_day_117 : decode cX8_day 117 = .ok (.iconst 1, 1) := by decide +kernel
theorem dX8_day_118 : decode cX8_day 118 = .ok (.imul, 1) := by decide +kernel
theorem dX8_day_119 : decode cX8_day 119 = .ok (.istore 4, 2) := by decide +kernel
theorem dX8_day_121 : decode cX8_day 121 = .ok (.aload_n 1, 1) := by decide +kernel
theorem dX8_day_122 : decode cX8_day 122 = .ok (.getfield 135, 3) := by decide +kernel
theorem dX8_day_125 : decode cX8_day 125 = .ok (.iload_n 3, 1) := by decide +kernel
theorem dX8_day_126 : decode cX8_day 126 = .ok (.dup2, 1) := by decide +kernel
theorem dX8_day_127 : decode cX8_day 127 = .ok (.iaload, 1) := by decide +kernel
theorem dX8_day_128 : decode cX8_day 128 = .ok (.iload 4, 2) := by decide +kernel
theorem dX8_day_130 : decode cX8_day 130 = .ok (.iadd, 1) := by decide +kernel
theorem dX8_day_131 : decode cX8_day 131 = .ok (.iastore, 1) := by decide +kernel
theorem dX8_day_132 : decode cX8_day 132 = .ok (.iload_n 2, 1) := by decide +kernel
theorem dX8_day_133 : decode cX8_day 133 = .ok (.iload 4, 2) := by decide +kernel
theorem dX8_day_135 : decode cX8_day 135 = .ok (.iadd, 1) := by decide +kernel
theorem dX8_day_136 : decode cX8_day 136 = .ok (.istore_n 2, 1) := by decide +kernel
theorem dX8_day_137 : decode cX8_day 137 = .ok (.iinc 3 1, 3) := by decide +kernel
theorem dX8_day_140 : decode cX8_day 140 = .ok (.goto (-59), 3) := by decide +kernel
theorem dX8_day_143 : decode cX8_day 143 = .ok (.aload_n 1, 1) := by decide +kernel
theorem dX8_day_144 : decode cX8_day 144 = .ok (.dup, 1) := by decide +kernel
theorem dX8_day_145 : decode cX8_day 145 = .ok (.getfield 96, 3) := by decide +kernel
theorem dX8_day_148 : decode cX8_day 148 = .ok (.iload_n 2, 1) := by decide +kernel
theorem dX8_day_149 : decode cX8_day 149 = .ok (.bipush 10, 2) := by decide +kernel
theorem dX8_day_151 : decode cX8_day 151 = .ok (.idiv, 1) := by decide +kernel
theorem dX8_day_152 : decode cX8_day 152 = .ok (.iadd, 1) := by decide +kernel
theorem dX8_day_153 : decode cX8_day 153 = .ok (.putfield 96, 3) := by decide +kernel
theorem dX8_day_156 : decode cX8_day 156 = .ok (.aload_n 1, 1) := by decide +kernel
theorem dX8_day_157 : decode cX8_day 157 = .ok (.dup, 1) := by decide +kernel
theorem dX8_day_158 : decode cX8_day 158 = .ok (.getfield 138, 3) := by decide +kernel
theorem dX8_day_161 : decode cX8_day 161 = .ok (.iconst 1, 1) := by decide +kernel
theorem dX8_day_162 : decode cX8_day 162 = .ok (.iadd, 1) := by decide +kernel
theorem dX8_day_163 : decode cX8_day 163 = .ok (.putfield 138, 3) := by decide +kernel
theorem dX8_day_166 : decode cX8_day 166 = .ok (.iload_n 2, 1) := by decide +kernel
theorem dX8_day_167 : decode cX8_day 167 = .ok (.ireturn, 1) := by decide +kernel
set_option maxRecDepth 20000 in
theorem ggX8_days_X8_markPonds : GoodIn wsX8_days wsX8_markPonds := goodIn_r _ [5, 6, 7, 8, 9, 4, 10, 11, 12, 13, 14, 62, 63, 64, 65, 66, 67, 68, 69, 70, 71, 72, 73, 74, 75, 76] (by decide +kernel) (by decide +kernel)
set_option maxRecDepth 20000 in
theorem gX8_days_X8_markPonds : GoodIn wsX8_days (wsV RX8 109 RX8 yX8_markPonds wsX8_markPonds) := goodIn_app (goodIn_of _ (by decide +kernel)) ggX8_days_X8_markPonds
set_option maxRecDepth 20000 in
theorem ggX8_days_X8_day : GoodIn wsX8_days wsX8_day := goodIn_r _ [18, 19, 20, 6, 21, 22, 23, 13, 24, 25, 26, 27, 28, 29, 30, 31, 32, 4, 33, 34, 35, 36, 37, 38, 39, 40, 41, 42, 43, 44, 45, 7, 46, 47, 48, 49, 50, 51, 52, 53, 54, 55, 56, 57, 58, 59, 60, 61, 62, 63, 64, 65, 66, 67, 68, 69, 70, 71, 72, 73, 74, 75, 76, 77, 78, 79, 80] (by decide +kernel) (by decide +kernel)
set_option maxRecDepth 20000 in
theorem gX8_days_X8_day : GoodIn wsX8_days (wsV RX8 163 RX8 yX8_day wsX8_day) := goodIn_app (goodIn_of _ (by decide +kernel)) ggX8_days_X8_day
theorem dX8_days_0 : decode cX8_days 0 = .ok (.aload_n 0, 1) := by decide +kernel
theorem dX8_days_1 : decode cX8_days 1 = .ok (.invokevirtual 109, 3) := by decide +kernel
theorem dX8_days_4 : decode cX8_days 4 = .ok (.iconst 0, 1) := by decide +kernel
theorem dX8_days_5 : decode cX8_days 5 = .ok (.istore_n 3, 1) := by decide +kernel
theorem dX8_days_6 : decode cX8_days 6 = .ok (.iconst 0, 1) := by decide +kernel
theorem dX8_days_7 : decode cX8_days 7 = .ok (.istore 4, 2) := by decide +kernel
theorem dX8_days_9 : decode cX8_days 9 = .ok (.iload 4, 2) := by decide +kernel
theorem dX8_days_11 : decode cX8_days 11 = .ok (.iload_n 2, 1) := by decide +kernel
theorem dX8_days_12 : decode cX8_days 12 = .ok (.if_icmp .ge 17, 3) := by decide +kernel
theorem dX8_days_15 : decode cX8_days 15 = .ok (.iload_n 3, 1) := by decide +kernel
theorem dX8_days_16 : decode cX8_days 16 = .ok (.aload_n 0, 1) := by decide +kernel
theorem dX8_days_17 : decode cX8_days 17 = .ok (.aload_n 1, 1) := by decide +kernel
theorem dX8_days_18 : decode cX8_days 18 = .ok (.invokevirtual 163, 3) := by decide +kernel
theorem dX8_days_21 : decode cX8_days 21 = .ok (.iadd, 1) := by decide +kernel
theorem dX8_days_22 : decode cX8_days 22 = .ok (.istore_n 3, 1) := by decide +kernel
theorem dX8_days_23 : decode cX8_days 23 = .ok (.iinc 4 1, 3) := by decide +kernel
theorem dX8_days_26 : decode cX8_days 26 = .ok (.goto (-17), 3) := by decide +kernel
theorem dX8_days_29 : decode cX8_days 29 = .ok (.iload_n 3, 1) := by decide +kernel
theorem dX8_days_30 : decode cX8_days 30 = .ok (.ireturn, 1) := by decide +kernel
set_option maxRecDepth 20000 in
theorem ggX8_pass_X8_isIn : GoodIn wsX8_pass wsX8_isIn := goodIn_r _ [6] (by decide +kernel) (by decide +kernel)
set_option maxRecDepth 20000 in
theorem gX8_pass_X8_isIn : GoodIn wsX8_pass (va_wsS RX8 51 yX8_isIn wsX8_isIn) := goodIn_app (goodIn_of _ (by decide +kernel)) ggX8_pass_X8_isIn
set_option maxRecDepth 20000 in
theorem ggX8_pass_X8_days : GoodIn wsX8_pass wsX8_days := goodIn_r _ [10, 11, 12, 13, 5, 14, 15, 16, 17, 18, 19, 20, 21, 22, 23, 24, 25, 26, 27, 28, 29, 30, 31, 32, 33, 34, 35, 36, 37, 38, 39, 40, 41, 42, 43, 44, 45, 46, 47, 48, 49, 50, 51, 52, 53, 54, 55, 56, 57, 58, 59, 60, 61, 62, 63, 64, 65, 66, 67, 3, 4, 6, 72, 73, 74, 75, 76, 77, 78, 79, 80, 81, 82, 83, 84, 85, 86, 87, 88, 89, 90] (by decide +kernel) (by decide +kernel)
set_option maxRecDepth 20000 in
theorem gX8_pass_X8_days : GoodIn wsX8_pass (wsV RX8 165 RX8 yX8_days wsX8_days) := goodIn_app (goodIn_of _ (by decide +kernel)) ggX8_pass_X8_days
set_option maxRecDepth 20000 in
theorem ggX8_pass_X8_no : GoodIn wsX8_pass wsX8_no := goodIn_r _ [71, 1, 72, 73, 74, 75, 76, 77, 78, 79, 80, 81, 82, 83, 84, 85, 86] (by decide +kernel) (by decide +kernel)
set_option maxRecDepth 20000 in
theorem gX8_pass_X8_no : GoodIn wsX8_pass (wsV RX8 99 RX8 yX8_no wsX8_no) := goodIn_app (goodIn_of _ (by decide +kernel)) ggX8_pass_X8_no
theorem dX8_pass_0 : decode cX8_pass 0 = .ok (.aload_n 0, 1) := by decide +kernel
theorem dX8_pass_1 : decode cX8_pass 1 = .ok (.iconst 0, 1) := by decide +kernel
theorem dX8_pass_2 : decode cX8_pass 2 = .ok (.putfield 47, 3) := by decide +kernel
theorem dX8_pass_5 : decode cX8_pass 5 = .ok (.iload_n 1, 1) := by decide +kernel
theorem dX8_pass_6 : decode cX8_pass 6 = .ok (.iconst 1, 1) := by decide +kernel
theorem dX8_pass_7 : decode cX8_pass 7 = .ok (.bipush 60, 2) := by decide +kernel
theorem dX8_pass_9 : decode cX8_pass 9 = .ok (.invokestatic 51, 3) := by decide +kernel
theorem dX8_pass_12 : decode cX8_pass 12 = .ok (.ifCond .eq 15, 3) := by decide +kernel
theorem dX8_pass_15 : decode cX8_pass 15 = .ok (.aload_n 0, 1) := by decide +kernel
theorem dX8_pass_16 : decode cX8_pass 16 = .ok (.aload_n 0, 1) := by decide +kernel
theorem dX8_pass_17 : decode cX8_pass 17 = .ok (.getfield 40, 3) := by decide +kernel
theorem dX8_pass_20 : decode cX8_pass 20 = .ok (.iload_n 1, 1) := by decide +kernel
theorem dX8_pass_21 : decode cX8_pass 21 = .ok (.invokevirtual 165, 3) := by decide +kernel
theorem dX8_pass_24 : decode cX8_pass 24 = .ok (.goto 8, 3) := by decide +kernel
theorem dX8_pass_27 : decode cX8_pass 27 = .ok (.aload_n 0, 1) := by decide +kernel
theorem dX8_pass_28 : decode cX8_pass 28 = .ok (.iconst 1, 1) := by decide +kernel
theorem dX8_pass_29 : decode cX8_pass 29 = .ok (.invokevirtual 99, 3) := by decide +kernel
theorem dX8_pass_32 : decode cX8_pass 32 = .ok (.ireturn, 1) := by decide +kernel
set_option maxRecDepth 20000 in
theorem ggX8_foresee_X8_isIn : GoodIn wsX8_foresee wsX8_isIn := goodIn_r _ [7] (by decide +kernel) (by decide +kernel)
set_option maxRecDepth 20000 in
theorem gX8_foresee_X8_isIn : GoodIn wsX8_foresee (va_wsS RX8 51 yX8_isIn wsX8_isIn) := goodIn_app (goodIn_of _ (by decide +kernel)) ggX8_foresee_X8_isIn
set_option maxRecDepth 20000 in
theorem ggX8_foresee_X8_no : GoodIn wsX8_foresee wsX8_no := goodIn_r _ [11, 1, 94, 95, 96, 97, 98, 99, 100, 101, 102, 103, 104, 105, 106, 107, 108] (by decide +kernel) (by decide +kernel)
set_option maxRecDepth 20000 in
theorem gX8_foresee_X8_no : GoodIn wsX8_foresee (wsV RX8 99 RX8 yX8_no wsX8_no) := goodIn_app (goodIn_of _ (by decide +kernel)) ggX8_foresee_X8_no
set_option maxRecDepth 20000 in
theorem ggX8_foresee_X7_become : GoodIn wsX8_foresee wsX7_become := goodIn_r _ [16, 17, 18, 19, 20, 21, 22, 23, 24, 109, 110, 111, 112] (by decide +kernel) (by decide +kernel)
set_option maxRecDepth 20000 in
theorem gX8_foresee_X7_become : GoodIn wsX8_foresee (wsV RX8 169 RX7 yX7_become wsX7_become) := goodIn_app (goodIn_of _ (by decide +kernel)) ggX8_foresee_X7_become
set_option maxRecDepth 20000 in
theorem ggX8_foresee_X8_days : GoodIn wsX8_foresee wsX8_days := goodIn_r _ [28, 29, 30, 31, 6, 32, 33, 34, 35, 36, 37, 38, 39, 40, 41, 42, 43, 44, 45, 46, 47, 48, 49, 50, 51, 52, 53, 54, 55, 56, 57, 58, 59, 60, 61, 62, 63, 64, 65, 66, 67, 68, 69, 70, 71, 72, 73, 74, 75, 76, 77, 78, 79, 80, 81, 82, 83, 84, 85, 4, 5, 7, 94, 95, 96, 97, 98, 99, 100, 101, 102, 103, 104, 105, 106, 107, 108, 109, 110, 111, 112] (by decide +kernel) (by decide +kernel)
set_option maxRecDepth 20000 in
theorem gX8_foresee_X8_days : GoodIn wsX8_foresee (wsV RX8 165 RX8 yX8_days wsX8_days) := goodIn_app (goodIn_of _ (by decide +kernel)) ggX8_foresee_X8_days
set_option maxRecDepth 20000 in
theorem ggX8_foresee_X8_sizes : GoodIn wsX8_foresee wsX8_sizes := goodIn_r _ [89, 46, 47, 94, 95, 96, 97, 98, 99, 100, 101, 102, 103, 104, 105, 106, 107, 108, 109, 110, 111, 112] (by decide +kernel) (by decide +kernel)
set_option maxRecDepth 20000 in
theorem gX8_foresee_X8_sizes : GoodIn wsX8_foresee (wsV RX8 144 RX8 yX8_sizes wsX8_sizes) := goodIn_app (goodIn_of _ (by decide +kernel)) ggX8_foresee_X8_sizes
set_option maxRecDepth 20000 in
theorem ggX8_foresee_X8_written : GoodIn wsX8_foresee wsX8_written := goodIn_r _ [93, 55, 94, 95, 96, 97, 98, 99, 100, 101, 102, 103, 104, 105, 106, 107, 108, 109, 110, 111, 112] (by decide +kernel) (by decide +kernel)
set_option maxRecDepth 20000 in
theorem gX8_foresee_X8_written : GoodIn wsX8_foresee (wsV RX8 148 RX8 yX8_written wsX8_written) := goodIn_app (goodIn_of _ (by decide +kernel)) ggX8_foresee_X8_written
theorem dX8_foresee_0 : decode cX8_foresee 0 = .ok (.aload_n 0, 1) := by decide +kernel
theorem dX8_foresee_1 : decode cX8_foresee 1 = .ok (.iconst 0, 1) := by decide +kernel
theorem dX8_foresee_2 : decode cX8_foresee 2 = .ok (.putfield 47, 3) := by decide +kernel
theorem dX8_foresee_5 : decode cX8_foresee 5 = .ok (.iload_n 1, 1) := by decide +kernel
theorem dX8_foresee_6 : decode cX8_foresee 6 = .ok (.iconst 1, 1) := by decide +kernel
theorem dX8_foresee_7 : decode cX8_foresee 7 = .ok (.bipush 60, 2) := by decide +kernel
theorem dX8_foresee_9 : decode cX8_foresee 9 = .ok (.invokestatic 51, 3) := by decide +kernel
theorem dX8_foresee_12 : decode cX8_foresee 12 = .ok (.ifCond .ne 9, 3) := by decide +kernel
theorem dX8_foresee_15 : decode cX8_foresee 15 = .ok (.aload_n 0, 1) := by decide +kernel
theorem dX8_foresee_16 : decode cX8_foresee 16 = .ok (.iconst 1, 1) := by decide +kernel
theorem dX8_foresee_17 : decode cX8_foresee 17 = .ok (.invokevirtual 99, 3) := by decide +kernel
theorem dX8_foresee_20 : decode cX8_foresee 20 = .ok (.ireturn, 1) := by decide +kernel
theorem dX8_foresee_21 : decode cX8_foresee 21 = .ok (.iload_n 2, 1) := by decide +kernel
theorem dX8_foresee_22 : decode cX8_foresee 22 = .ok (.iconst 2, 1) := by decide +kernel
theorem dX8_foresee_23 : decode cX8_foresee 23 = .ok (.if_icmp .eq 21, 3) := by decide +kernel
theorem dX8_foresee_26 : decode cX8_foresee 26 = .ok (.iload_n 2, 1) := by decide +kernel
theorem dX8_foresee_27 : decode cX8_foresee 27 = .ok (.bipush 7, 2) := by decide +kernel
theorem dX8_foresee_29 : decode cX8_foresee 29 = .ok (.if_icmp .eq 15, 3) := by decide +kernel
theorem dX8_foresee_32 : decode cX8_foresee 32 = .ok (.iload_n 2, 1) := by decide +kernel
theorem dX8_foresee_33 : decode cX8_foresee 33 = .ok (.bipush 10, 2) := by decide +kernel
theorem dX8_foresee_35 : decode cX8_foresee 35 = .ok (.if_icmp .eq 9, 3) := by decide +kernel
theorem dX8_foresee_38 : decode cX8_foresee 38 = .ok (.aload_n 0, 1) := by decide +kernel
theorem dX8_foresee_39 : decode cX8_foresee 39 = .ok (.iconst 2, 1) := by decide +kernel
theorem dX8_foresee_40 : decode cX8_foresee 40 = .ok (.invokevirtual 99, 3) := by decide +kernel
theorem dX8_foresee_43 : decode cX8_foresee 43 = .ok (.ireturn, 1) := by decide +kernel
theorem dX8_foresee_44 : decode cX8_foresee 44 = .ok (.aload_n 0, 1) := by decide +kernel
theorem dX8_foresee_45 : decode cX8_foresee 45 = .ok (.getfield 44, 3) := by decide +kernel
theorem dX8_foresee_48 : decode cX8_foresee 48 = .ok (.aload_n 0, 1) := by decide +kernel
theorem dX8_foresee_49 : decode cX8_foresee 49 = .ok (.getfield 40, 3) := by decide +kernel
theorem dX8_foresee_52 : decode cX8_foresee 52 = .ok (.invokevirtual 169, 3) := by decide +kernel
theorem dX8_foresee_55 : decode cX8_foresee 55 = .ok (.aload_n 0, 1) := by decide +kernel
theorem dX8_foresee_56 : decode cX8_foresee 56 = .ok (.aload_n 0, 1) := by decide +kernel
theorem dX8_foresee_57 : decode cX8_foresee 57 = .ok (.getfield 44, 3) := by decide +kernel
theorem dX8_foresee_60 : decode cX8_foresee 60 = .ok (.iload_n 1, 1) := by decide +kernel
theorem dX8_foresee_61 : decode cX8_foresee 61 = .ok (.invokevirtual 165, 3) := by decide +kernel
theorem dX8_foresee_64 : decode cX8_foresee 64 = .ok (.pop, 1) := by decide +kernel
theorem dX8_foresee_65 : decode cX8_foresee 65 = .ok (.iload_n 2, 1) := by decide +kernel
theorem dX8_foresee_66 : decode cX8_foresee 66 = .ok (.iconst 2, 1) := by decide +kernel
theorem dX8_foresee_67 : decode cX8_foresee 67 = .ok (.if_icmp .ne 13, 3) := by decide +kernel
theorem dX8_foresee_70 : decode cX8_foresee 70 = .ok (.aload_n 0, 1) := by decide +kernel
theorem dX8_foresee_71 : decode cX8_foresee 71 = .ok (.getfield 44, 3) := by decide +kernel
theorem dX8_foresee_74 : decode cX8_foresee 74 = .ok (.getfield 96, 3) := by decide +kernel
theorem dX8_foresee_77 : decode cX8_foresee 77 = .ok (.goto 28, 3) := by decide +kernel
theorem dX8_foresee_80 : decode cX8_foresee 80 = .ok (.iload_n 2, 1) := by decide +kernel
theorem dX8_foresee_81 : decode cX8_foresee 81 = .ok (.bipush 7, 2) := by decide +kernel
theorem dX8_foresee_83 : decode cX8_foresee 83 = .ok (.if_icmp .ne 14, 3) := by decide +kernel
theorem dX8_foresee_86 : decode cX8_foresee 86 = .ok (.aload_n 0, 1) := by decide +kernel
theorem dX8_foresee_87 : decode cX8_foresee 87 = .ok (.aload_n 0, 1) := by decide +kernel
theorem dX8_foresee_88 : decode cX8_foresee 88 = .ok (.getfield 44, 3) := by decide +kernel
theorem dX8_foresee_91 : decode cX8_foresee 91 = .ok (.invokevirtual 144, 3) := by decide +kernel
theorem dX8_foresee_94 : decode cX8_foresee 94 = .ok (.goto 11, 3) := by decide +kernel
theorem dX8_foresee_97 : decode cX8_foresee 97 = .ok (.aload_n 0, 1) := by decide +kernel
theorem dX8_foresee_98 : decode cX8_foresee 98 = .ok (.aload_n 0, 1) := by decide +kernel
theorem dX8_foresee_99 : decode cX8_foresee 99 = .ok (.getfield 44, 3) := by decide +kernel
theorem dX8_foresee_102 : decode cX8_foresee 102 = .ok (.invokevirtual 148, 3) := by decide +kernel
theorem dX8_foresee_105 : decode cX8_foresee 105 = .ok (.ireturn, 1) := by decide +kernel
set_option maxRecDepth 20000 in
theorem ggX8_advise_X8_isGate : GoodIn wsX8_advise wsX8_isGate := goodIn_r _ [10, 11, 12, 13, 9, 14, 37, 38, 39, 40, 41, 42, 43, 44, 45, 46, 47, 48, 49, 50, 51] (by decide +kernel) (by decide +kernel)
set_option maxRecDepth 20000 in
theorem gX8_advise_X8_isGate : GoodIn wsX8_advise (wsV RX8 125 RX8 yX8_isGate wsX8_isGate) := goodIn_app (goodIn_of _ (by decide +kernel)) ggX8_advise_X8_isGate
set_option maxRecDepth 20000 in
theorem ggX8_advise_X8_no : GoodIn wsX8_advise wsX8_no := goodIn_r _ [18, 1, 37, 38, 39, 40, 41, 42, 43, 44, 45, 46, 47, 48, 49, 50, 51] (by decide +kernel) (by decide +kernel)
set_option maxRecDepth 20000 in
theorem gX8_advise_X8_no : GoodIn wsX8_advise (wsV RX8 99 RX8 yX8_no wsX8_no) := goodIn_app (goodIn_of _ (by decide +kernel)) ggX8_advise_X8_no
set_option maxRecDepth 20000 in
theorem ggX8_advise_X8_isIn : GoodIn wsX8_advise wsX8_isIn := goodIn_r _ [14] (by decide +kernel) (by decide +kernel)
set_option maxRecDepth 20000 in
theorem gX8_advise_X8_isIn : GoodIn wsX8_advise (va_wsS RX8 51 yX8_isIn wsX8_isIn) := goodIn_app (goodIn_of _ (by decide +kernel)) ggX8_advise_X8_isIn
set_option maxRecDepth 20000 in
theorem ggX8_advise_X8_beauty : GoodIn wsX8_advise wsX8_beauty := goodIn_r _ [22, 3, 5, 4, 23, 24, 25, 26, 27, 28, 9, 29, 30, 31, 32, 33, 34, 35, 36, 12, 13, 14, 37, 38, 39, 40, 41, 42, 43, 44, 45, 46, 47, 48, 49, 50, 51, 52, 53, 54, 55] (by decide +kernel) (by decide +kernel)
set_option maxRecDepth 20000 in
theorem gX8_advise_X8_beauty : GoodIn wsX8_advise (wsV RX8 121 RX8 yX8_beauty wsX8_beauty) := goodIn_app (goodIn_of _ (by decide +kernel)) ggX8_advise_X8_beauty
theorem dX8_advise_0 : decode cX8_advise 0 = .ok (.aload_n 0, 1) := by decide +kernel
theorem dX8_advise_1 : decode cX8_advise 1 = .ok (.iconst 0, 1) := by decide +kernel
theorem dX8_advise_2 : decode cX8_advise 2 = .ok (.putfield 47, 3) := by decide +kernel
theorem dX8_advise_5 : decode cX8_advise 5 = .ok (.aload_n 0, 1) := by decide +kernel
theorem dX8_advise_6 : decode cX8_advise 6 = .ok (.iload_n 1, 1) := by decide +kernel
theorem dX8_advise_7 : decode cX8_advise 7 = .ok (.invokevirtual 125, 3) := by decide +kernel
theorem dX8_advise_10 : decode cX8_advise 10 = .ok (.ifCond .ne 9, 3) := by decide +kernel
theorem dX8_advise_13 : decode cX8_advise 13 = .ok (.aload_n 0, 1) := by decide +kernel
theorem dX8_advise_14 : decode cX8_advise 14 = .ok (.iconst 1, 1) := by decide +kernel
theorem dX8_advise_15 : decode cX8_advise 15 = .ok (.invokevirtual 99, 3) := by decide +kernel
theorem dX8_advise_18 : decode cX8_advise 18 = .ok (.ireturn, 1) := by decide +kernel
theorem dX8_advise_19 : decode cX8_advise 19 = .ok (.iload_n 2, 1) := by decide +kernel
theorem dX8_advise_20 : decode cX8_advise 20 = .ok (.iconst 0, 1) := by decide +kernel
theorem dX8_advise_21 : decode cX8_advise 21 = .ok (.iconst 5, 1) := by decide +kernel
theorem dX8_advise_22 : decode cX8_advise 22 = .ok (.invokestatic 51, 3) := by decide +kernel
theorem dX8_advise_25 : decode cX8_advise 25 = .ok (.ifCond .eq 13, 3) := by decide +kernel
theorem dX8_advise_28 : decode cX8_advise 28 = .ok (.iload_n 3, 1) := by decide +kernel
theorem dX8_advise_29 : decode cX8_advise 29 = .ok (.iconst 1, 1) := by decide +kernel
theorem dX8_advise_30 : decode cX8_advise 30 = .ok (.bipush 9, 2) := by decide +kernel
theorem dX8_advise_32 : decode cX8_advise 32 = .ok (.invokestatic 51, 3) := by decide +kernel
theorem dX8_advise_35 : decode cX8_advise 35 = .ok (.ifCond .ne 9, 3) := by decide +kernel
theorem dX8_advise_38 : decode cX8_advise 38 = .ok (.aload_n 0, 1) := by decide +kernel
theorem dX8_advise_39 : decode cX8_advise 39 = .ok (.iconst 2, 1) := by decide +kernel
theorem dX8_advise_40 : decode cX8_advise 40 = .ok (.invokevirtual 99, 3) := by decide +kernel
theorem dX8_advise_43 : decode cX8_advise 43 = .ok (.ireturn, 1) := by decide +kernel
theorem dX8_advise_44 : decode cX8_advise 44 = .ok (.iconst (-1), 1) := by decide +kernel
theorem dX8_advise_45 : decode cX8_advise 45 = .ok (.istore 4, 2) := by decide +kernel
theorem dX8_advise_47 : decode cX8_advise 47 = .ok (.aload_n 0, 1) := by decide +kernel
theorem dX8_advise_48 : decode cX8_advise 48 = .ok (.iload_n 1, 1) := by decide +kernel
theorem dX8_advise_49 : decode cX8_advise 49 = .ok (.aload_n 0, 1) := by decide +kernel
theorem dX8_advise_50 : decode cX8_advise 50 = .ok (.getfield 40, 3) := by decide +kernel
theorem dX8_advise_53 : decode cX8_advise 53 = .ok (.invokevirtual 121, 3) := by decide +kernel
theorem dX8_advise_56 : decode cX8_advise 56 = .ok (.istore 5, 2) := by decide +kernel
theorem dX8_advise_58 : decode cX8_advise 58 = .ok (.iconst 0, 1) := by decide +kernel
theorem dX8_advise_59 : decode cX8_advise 59 = .ok (.istore 6, 2) := by decide +kernel
theorem dX8_advise_61 : decode cX8_advise 61 = .ok (.iload 6, 2) := by decide +kernel
theorem dX8_advise_63 : decode cX8_advise 63 = .ok (.bipush 70, 2) := by decide +kernel
theorem dX8_advise_65 : decode cX8_advise 65 = .ok (.if_icmp .ge 83, 3) := by decide +kernel
theorem dX8_advise_68 : decode cX8_advise 68 = .ok (.aload_n 0, 1) := by decide +kernel
theorem dX8_advise_69 : decode cX8_advise 69 = .ok (.getfield 9, 3) := by decide +kernel
theorem dX8_advise_72 : decode cX8_advise 72 = .ok (.iload 6, 2) := by decide +kernel
theorem dX8_advise_74 : decode cX8_advise 74 = .ok (.iaload, 1) := by decide +kernel
theorem dX8_advise_75 : decode cX8_advise 75 = .ok (.ifCond .eq 6, 3) := by decide +kernel
theorem dX8_advise_78 : decode cX8_advise 78 = .ok (.goto 64, 3) := by decide +kernel
theorem dX8_advise_81 : decode cX8_advise 81 = .ok (.aload_n 0, 1) := by decide +kernel
theorem dX8_advise_82 : decode cX8_advise 82 = .ok (.getfield 9, 3) := by decide +kernel
theorem dX8_advise_85 : decode cX8_advise 85 = .ok (.iload 6, 2) := by decide +kernel
theorem dX8_advise_87 : decode cX8_advise 87 = .ok (.iconst 1, 1) := by decide +kernel
theorem dX8_advise_88 : decode cX8_advise 88 = .ok (.iastore, 1) := by decide +kernel
theorem dX8_advise_89 : decode cX8_advise 89 = .ok (.aload_n 0, 1) := by decide +kernel
theorem dX8_advise_90 : decode cX8_advise 90 = .ok (.getfield 13, 3) := by decide +kernel
theorem dX8_advise_93 : decode cX8_advise 93 = .ok (.iload 6, 2) := by decide +kernel
theorem dX8_advise_95 : decode cX8_advise 95 = .ok (.iload_n 2, 1) := by decide +kernel
theorem dX8_advise_96 : decode cX8_advise 96 = .ok (.iastore, 1) := by decide +kernel
theorem dX8_advise_97 : decode cX8_advise 97 = .ok (.aload_n 0, 1) := by decide +kernel
theorem dX8_advise_98 : decode cX8_advise 98 = .ok (.getfield 16, 3) := by decide +kernel
theorem dX8_advise_101 : decode cX8_advise 101 = .ok (.iload 6, 2) := by decide +kernel
theorem dX8_advise_103 : decode cX8_advise 103 = .ok (.iload_n 3, 1) := by decide +kernel
theorem dX8_advise_104 : decode cX8_advise 104 = .ok (.iastore, 1) := by decide +kernel
theorem dX8_advise_105 : decode cX8_advise 105 = .ok (.aload_n 0, 1) := by decide +kernel
theorem dX8_advise_106 : decode cX8_advise 106 = .ok (.iload_n 1, 1) := by decide +kernel
theorem dX8_advise_107 : decode cX8_advise 107 = .ok (.aload_n 0, 1) := by decide +kernel
theorem dX8_advise_108 : decode cX8_advise 108 = .ok (.getfield 40, 3) := by decide +kernel
theorem dX8_advise_111 : decode cX8_advise 111 = .ok (.invokevirtual 121, 3) := by decide +kernel
theorem dX8_advise_114 : decode cX8_advise 114 = .ok (.istore 7, 2) := by decide +kernel
theorem dX8_advise_116 : decode cX8_advise 116 = .ok (.aload_n 0, 1) := by decide +kernel
theorem dX8_advise_117 : decode cX8_advise 117 = .ok (.getfield 9, 3) := by decide +kernel
theorem dX8_advise_120 : decode cX8_advise 120 = .ok (.iload 6, 2) := by decide +kernel
theorem dX8_advise_122 : decode cX8_advise 122 = .ok (.iconst 0, 1) := by decide +kernel
theorem dX8_advise_123 : decode cX8_advise 123 = .ok (.iastore, 1) := by decide +kernel
theorem dX8_advise_124 : decode cX8_advise 124 = .ok (.iload 7, 2) := by decide +kernel
theorem dX8_advise_126 : decode cX8_advise 126 = .ok (.iload 5, 2) := by decide +kernel
theorem dX8_advise_128 : decode cX8_advise 128 = .ok (.if_icmp .gt 6, 3) := by decide +kernel
theorem dX8_advise_131 : decode cX8_advise 131 = .ok (.goto 11, 3) := by decide +kernel
theorem dX8_advise_134 : decode cX8_advise 134 = .ok (.iload 7, 2) := by decide +kernel
theorem dX8_advise_136 : decode cX8_advise 136 = .ok (.istore 5, 2) := by decide +kernel
theorem dX8_advise_138 : decode cX8_advise 138 = .ok (.iload 6, 2) := by decide +kernel
theorem dX8_advise_140 : decode cX8_advise 140 = .ok (.istore 4, 2) := by decide +kernel
theorem dX8_advise_142 : decode cX8_advise 142 = .ok (.iinc 6 1, 3) := by decide +kernel
theorem dX8_advise_145 : decode cX8_advise 145 = .ok (.goto (-84), 3) := by decide +kernel
theorem dX8_advise_148 : decode cX8_advise 148 = .ok (.iload 4, 2) := by decide +kernel
theorem dX8_advise_150 : decode cX8_advise 150 = .ok (.ireturn, 1) := by decide +kernel
set_option maxRecDepth 20000 in
theorem ggX8_finest_X8_beauty : GoodIn wsX8_finest wsX8_beauty := goodIn_r _ [8, 9, 10, 11, 12, 13, 14, 15, 16, 17, 7, 18, 19, 20, 21, 22, 23, 24, 25, 26, 27, 28, 29, 30, 31, 32, 33, 34, 35, 36, 37, 38, 39, 40, 41, 42, 43, 44, 45, 46, 47] (by decide +kernel) (by decide +kernel)
set_option maxRecDepth 20000 in
theorem gX8_finest_X8_beauty : GoodIn wsX8_finest (wsV RX8 121 RX8 yX8_beauty wsX8_beauty) := goodIn_app (goodIn_of _ (by decide +kernel)) ggX8_finest_X8_beauty
theorem dX8_finest_0 : decode cX8_finest 0 = .ok (.aload_n 0, 1) := by decide +kernel
theorem dX8_finest_1 : decode cX8_finest 1 = .ok (.iconst 0, 1) := by decide +kernel
theorem dX8_finest_2 : decode cX8_finest 2 = .ok (.putfield 47, 3) := by decide +kernel
theorem dX8_finest_5 : decode cX8_finest 5 = .ok (.iconst (-1), 1) := by decide +kernel
theorem dX8_finest_6 : decode cX8_finest 6 = .ok (.istore_n 1, 1) := by decide +kernel
theorem dX8_finest_7 : decode cX8_finest 7 = .ok (.iconst 0, 1) := by decide +kernel
theorem dX8_finest_8 : decode cX8_finest 8 = .ok (.istore_n 2, 1) := by decide +kernel
theorem dX8_finest_9 : decode cX8_finest 9 = .ok (.iload_n 2, 1) := by decide +kernel
theorem dX8_finest_10 : decode cX8_finest 10 = .ok (.aload_n 0, 1) := by decide +kernel
theorem dX8_finest_11 : decode cX8_finest 11 = .ok (.getfield 55, 3) := by decide +kernel
theorem dX8_finest_14 : decode cX8_finest 14 = .ok (.if_icmp .ge 37, 3) := by decide +kernel
theorem dX8_finest_17 : decode cX8_finest 17 = .ok (.iload_n 1, 1) := by decide +kernel
theorem dX8_finest_18 : decode cX8_finest 18 = .ok (.iconst (-1), 1) := by decide +kernel
theorem dX8_finest_19 : decode cX8_finest 19 = .ok (.if_icmp .eq 24, 3) := by decide +kernel
theorem dX8_finest_22 : decode cX8_finest 22 = .ok (.aload_n 0, 1) := by decide +kernel
theorem dX8_finest_23 : decode cX8_finest 23 = .ok (.iload_n 2, 1) := by decide +kernel
theorem dX8_finest_24 : decode cX8_finest 24 = .ok (.aload_n 0, 1) := by decide +kernel
theorem dX8_finest_25 : decode cX8_finest 25 = .ok (.getfield 40, 3) := by decide +kernel
theorem dX8_finest_28 : decode cX8_finest 28 = .ok (.invokevirtual 121, 3) := by decide +kernel
theorem dX8_finest_31 : decode cX8_finest 31 = .ok (.aload_n 0, 1) := by decide +kernel
theorem dX8_finest_32 : decode cX8_finest 32 = .ok (.iload_n 1, 1) := by decide +kernel
theorem dX8_finest_33 : decode cX8_finest 33 = .ok (.aload_n 0, 1) := by decide +kernel
theorem dX8_finest_34 : decode cX8_finest 34 = .ok (.getfield 40, 3) := by decide +kernel
theorem dX8_finest_37 : decode cX8_finest 37 = .ok (.invokevirtual 121, 3) := by decide +kernel
theorem dX8_finest_40 : decode cX8_finest 40 = .ok (.if_icmp .le 5, 3) := by decide +kernel
theorem dX8_finest_43 : decode cX8_finest 43 = .ok (.iload_n 2, 1) := by decide +kernel
theorem dX8_finest_44 : decode cX8_finest 44 = .ok (.istore_n 1, 1) := by decide +kernel
theorem dX8_finest_45 : decode cX8_finest 45 = .ok (.iinc 2 1, 3) := by decide +kernel
theorem dX8_finest_48 : decode cX8_finest 48 = .ok (.goto (-39), 3) := by decide +kernel
theorem dX8_finest_51 : decode cX8_finest 51 = .ok (.iload_n 1, 1) := by decide +kernel
theorem dX8_finest_52 : decode cX8_finest 52 = .ok (.ireturn, 1) := by decide +kernel
set_option maxRecDepth 20000 in
theorem ggX8_mean_X8_beauty : GoodIn wsX8_mean wsX8_beauty := goodIn_r _ [8, 9, 10, 11, 12, 13, 14, 15, 16, 17, 7, 18, 19, 20, 21, 22, 23, 24, 25, 26, 27, 28, 29, 30, 31, 32, 33, 34, 35, 36, 37, 38, 39, 40, 41, 42, 43, 44, 45, 46, 47] (by decide +kernel) (by decide +kernel)
set_option maxRecDepth 20000 in
theorem gX8_mean_X8_beauty : GoodIn wsX8_mean (wsV RX8 121 RX8 yX8_beauty wsX8_beauty) := goodIn_app (goodIn_of _ (by decide +kernel)) ggX8_mean_X8_beauty
theorem dX8_mean_0 : decode cX8_mean 0 = .ok (.aload_n 0, 1) := by decide +kernel
theorem dX8_mean_1 : decode cX8_mean 1 = .ok (.iconst 0, 1) := by decide +kernel
theorem dX8_mean_2 : decode cX8_mean 2 = .ok (.putfield 47, 3) := by decide +kernel
theorem dX8_mean_5 : decode cX8_mean 5 = .ok (.iconst 0, 1) := by decide +kernel
theorem dX8_mean_6 : decode cX8_mean 6 = .ok (.istore_n 1, 1) := by decide +kernel
theorem dX8_mean_7 : decode cX8_mean 7 = .ok (.iconst 0, 1) := by decide +kernel
theorem dX8_mean_8 : decode cX8_mean 8 = .ok (.istore_n 2, 1) := by decide +kernel
theorem dX8_mean_9 : decode cX8_mean 9 = .ok (.iload_n 2, 1) := by decide +kernel
theorem dX8_mean_10 : decode cX8_mean 10 = .ok (.aload_n 0, 1) := by decide +kernel
theorem dX8_mean_11 : decode cX8_mean 11 = .ok (.getfield 55, 3) := by decide +kernel
theorem dX8_mean_14 : decode cX8_mean 14 = .ok (.if_icmp .ge 21, 3) := by decide +kernel
theorem dX8_mean_17 : decode cX8_mean 17 = .ok (.iload_n 1, 1) := by decide +kernel
theorem dX8_mean_18 : decode cX8_mean 18 = .ok (.aload_n 0, 1) := by decide +kernel
theorem dX8_mean_19 : decode cX8_mean 19 = .ok (.iload_n 2, 1) := by decide +kernel
theorem dX8_mean_20 : decode cX8_mean 20 = .ok (.aload_n 0, 1) := by decide +kernel
theorem dX8_mean_21 : decode cX8_mean 21 = .ok (.getfield 40, 3) := by decide +kernel
theorem dX8_mean_24 : decode cX8_mean 24 = .ok (.invokevirtual 121, 3) := by decide +kernel
theorem dX8_mean_27 : decode cX8_mean 27 = .ok (.iadd, 1) := by decide +kernel
theorem dX8_mean_28 : decode cX8_mean 28 = .ok (.istore_n 1, 1) := by decide +kernel
theorem dX8_mean_29 : decode cX8_mean 29 = .ok (.iinc 2 1, 3) := by decide +kernel
theorem dX8_mean_32 : decode cX8_mean 32 = .ok (.goto (-23), 3) := by decide +kernel
theorem dX8_mean_35 : decode cX8_mean 35 = .ok (.aload_n 0, 1) := by decide +kernel
theorem dX8_mean_36 : decode cX8_mean 36 = .ok (.getfield 55, 3) := by decide +kernel
theorem dX8_mean_39 : decode cX8_mean 39 = .ok (.ifCond .ne 7, 3) := by decide +kernel
theorem dX8_mean_42 : decode cX8_mean 42 = .ok (.dconst 0, 1) := by decide +kernel
theorem dX8_mean_43 : decode cX8_mean 43 = .ok (.goto 11, 3) := by decide +kernel
theorem dX8_mean_46 : decode cX8_mean 46 = .ok (.iload_n 1, 1) := by decide +kernel
theorem dX8_mean_47 : decode cX8_mean 47 = .ok (.i2d, 1) := by decide +kernel
theorem dX8_mean_48 : decode cX8_mean 48 = .ok (.aload_n 0, 1) := by decide +kernel
theorem dX8_mean_49 : decode cX8_mean 49 = .ok (.getfield 55, 3) := by decide +kernel
theorem dX8_mean_52 : decode cX8_mean 52 = .ok (.i2d, 1) := by decide +kernel
theorem dX8_mean_53 : decode cX8_mean 53 = .ok (.ddiv, 1) := by decide +kernel
theorem dX8_mean_54 : decode cX8_mean 54 = .ok (.dreturn, 1) := by decide +kernel
set_option maxRecDepth 20000 in
theorem ggX8_digest_X8_markPonds : GoodIn wsX8_digest wsX8_markPonds := goodIn_r _ [12, 13, 14, 15, 16, 11, 17, 18, 19, 20, 21, 86, 87, 88, 89, 90, 91, 92, 93, 94, 95, 96, 97, 98, 99, 100] (by decide +kernel) (by decide +kernel)
set_option maxRecDepth 20000 in
theorem gX8_digest_X8_markPonds : GoodIn wsX8_digest (wsV RX8 109 RX8 yX8_markPonds wsX8_markPonds) := goodIn_app (goodIn_of _ (by decide +kernel)) ggX8_digest_X8_markPonds
set_option maxRecDepth 20000 in
theorem ggX8_digest_X8_counted : GoodIn wsX8_digest wsX8_counted := goodIn_r _ [25, 13, 4, 26, 27, 7, 5, 6, 28, 29, 30, 11, 31, 14, 32, 33, 34, 35, 36, 37, 38, 39, 86, 87, 88, 89, 90, 91, 92, 93, 94, 95, 96, 97, 98, 99, 100, 101, 102, 103, 104] (by decide +kernel) (by decide +kernel)
set_option maxRecDepth 20000 in
theorem gX8_digest_X8_counted : GoodIn wsX8_digest (wsV RX8 151 RX8 yX8_counted wsX8_counted) := goodIn_app (goodIn_of _ (by decide +kernel)) ggX8_digest_X8_counted
set_option maxRecDepth 20000 in
theorem ggX8_digest_X8_cellTold : GoodIn wsX8_digest wsX8_cellTold := goodIn_r _ [43, 14, 27, 44, 45, 13, 46, 47, 48, 11, 49, 50, 51, 52, 53, 4, 26, 54, 86, 87, 88, 89, 90, 91, 92, 93, 94, 95, 96, 97, 98, 99, 100] (by decide +kernel) (by decide +kernel)
set_option maxRecDepth 20000 in
theorem gX8_digest_X8_cellTold : GoodIn wsX8_digest (wsV RX8 112 RX8 yX8_cellTold wsX8_cellTold) := goodIn_app (goodIn_of _ (by decide +kernel)) ggX8_digest_X8_cellTold
set_option maxRecDepth 20000 in
theorem ggX8_digest_X8_carpTold : GoodIn wsX8_digest wsX8_carpTold := goodIn_r _ [58, 26, 4, 7, 27, 54, 86, 87, 88, 89, 90, 91, 92, 93, 94, 95, 96, 97, 98, 99, 100, 101, 102, 103, 104] (by decide +kernel) (by decide +kernel)
set_option maxRecDepth 20000 in
theorem gX8_digest_X8_carpTold : GoodIn wsX8_digest (wsV RX8 115 RX8 yX8_carpTold wsX8_carpTold) := goodIn_app (goodIn_of _ (by decide +kernel)) ggX8_digest_X8_carpTold
set_option maxRecDepth 20000 in
theorem ggX8_digest_X8_gateTold : GoodIn wsX8_digest wsX8_gateTold := goodIn_r _ [62, 6, 63, 7, 64, 65, 66, 11, 67, 14, 68, 69, 70, 71, 72, 73, 74, 75, 45, 76, 77, 78, 79, 80, 81, 82, 83, 84, 85, 44, 4, 26, 54, 86, 87, 88, 89, 90, 91, 92, 93, 94, 95, 96, 97, 98, 99, 100, 101, 102, 103, 104] (by decide +kernel) (by decide +kernel)
set_option maxRecDepth 20000 in
theorem gX8_digest_X8_gateTold : GoodIn wsX8_digest (wsV RX8 129 RX8 yX8_gateTold wsX8_gateTold) := goodIn_app (goodIn_of _ (by decide +kernel)) ggX8_digest_X8_gateTold
theorem dX8_digest_0 : decode cX8_digest 0 = .ok (.aload_n 0, 1) := by decide +kernel
theorem dX8_digest_1 : decode cX8_digest 1 = .ok (.iconst 0, 1) := by decide +kernel
theorem dX8_digest_2 : decode cX8_digest 2 = .ok (.putfield 47, 3) := by decide +kernel
theorem dX8_digest_5 : decode cX8_digest 5 = .ok (.aload_n 0, 1) := by decide +kernel
theorem dX8_digest_6 : decode cX8_digest 6 = .ok (.invokevirtual 109, 3) := by decide +kernel
theorem dX8_digest_9 : decode cX8_digest 9 = .ok (.ldc2_w 173, 3) := by decide +kernel
theorem dX8_digest_12 : decode cX8_digest 12 = .ok (.lstore_n 1, 1) := by decide +kernel
theorem dX8_digest_13 : decode cX8_digest 13 = .ok (.iconst 0, 1) := by decide +kernel
theorem dX8_digest_14 : decode cX8_digest 14 = .ok (.istore_n 3, 1) := by decide +kernel
theorem dX8_digest_15 : decode cX8_digest 15 = .ok (.iload_n 3, 1) := by decide +kernel
theorem dX8_digest_16 : decode cX8_digest 16 = .ok (.bipush 11, 2) := by decide +kernel
theorem dX8_digest_18 : decode cX8_digest 18 = .ok (.if_icmp .ge 22, 3) := by decide +kernel
theorem dX8_digest_21 : decode cX8_digest 21 = .ok (.lload_n 1, 1) := by decide +kernel
theorem dX8_digest_22 : decode cX8_digest 22 = .ok (.ldc2_w 175, 3) := by decide +kernel
theorem dX8_digest_25 : decode cX8_digest 25 = .ok (.lmul, 1) := by decide +kernel
theorem dX8_digest_26 : decode cX8_digest 26 = .ok (.aload_n 0, 1) := by decide +kernel
theorem dX8_digest_27 : decode cX8_digest 27 = .ok (.iload_n 3, 1) := by decide +kernel
theorem dX8_digest_28 : decode cX8_digest 28 = .ok (.invokevirtual 151, 3) := by decide +kernel
theorem dX8_digest_31 : decode cX8_digest 31 = .ok (.i2l, 1) := by decide +kernel
theorem dX8_digest_32 : decode cX8_digest 32 = .ok (.ladd, 1) := by decide +kernel
theorem dX8_digest_33 : decode cX8_digest 33 = .ok (.lstore_n 1, 1) := by decide +kernel
theorem dX8_digest_34 : decode cX8_digest 34 = .ok (.iinc 3 1, 3) := by decide +kernel
theorem dX8_digest_37 : decode cX8_digest 37 = .ok (.goto (-22), 3) := by decide +kernel
theorem dX8_digest_40 : decode cX8_digest 40 = .ok (.iconst 0, 1) := by decide +kernel
theorem dX8_digest_41 : decode cX8_digest 41 = .ok (.istore_n 3, 1) := by decide +kernel
theorem dX8_digest_42 : decode cX8_digest 42 = .ok (.iload_n 3, 1) := by decide +kernel
theorem dX8_digest_43 : decode cX8_digest 43 = .ok (.bipush 70, 2) := by decide +kernel
theorem dX8_digest_45 : decode cX8_digest 45 = .ok (.if_icmp .ge 39, 3) := by decide +kernel
theorem dX8_digest_48 : decode cX8_digest 48 = .ok (.iconst 0, 1) := by decide +kernel
theorem dX8_digest_49 : decode cX8_digest 49 = .ok (.istore 4, 2) := by decide +kernel
theorem dX8_digest_51 : decode cX8_digest 51 = .ok (.iload 4, 2) := by decide +kernel
theorem dX8_digest_53 : decode cX8_digest 53 = .ok (.iconst 5, 1) := by decide +kernel
theorem dX8_digest_54 : decode cX8_digest 54 = .ok (.if_icmp .ge 24, 3) := by decide +kernel
theorem dX8_digest_57 : decode cX8_digest 57 = .ok (.lload_n 1, 1) := by decide +kernel
theorem dX8_digest_58 : decode cX8_digest 58 = .ok (.ldc2_w 175, 3) := by decide +kernel
theorem dX8_digest_61 : decode cX8_digest 61 = .ok (.lmul, 1) := by decide +kernel
theorem dX8_digest_62 : decode cX8_digest 62 = .ok (.aload_n 0, 1) := by decide +kernel
theorem dX8_digest_63 : decode cX8_digest 63 = .ok (.iload_n 3, 1) := by decide +kernel
theorem dX8_digest_64 : decode cX8_digest 64 = .ok (.iload 4, 2) := by decide +kernel
theorem dX8_digest_66 : decode cX8_digest 66 = .ok (.invokevirtual 112, 3) := by decide +kernel
theorem dX8_digest_69 : decode cX8_digest 69 = .ok (.i2l, 1) := by decide +kernel
theorem dX8_digest_70 : decode cX8_digest 70 = .ok (.ladd, 1) := by decide +kernel
theorem dX8_digest_71 : decode cX8_digest 71 = .ok (.lstore_n 1, 1) := by decide +kernel
theorem dX8_digest_72 : decode cX8_digest 72 = .ok (.iinc 4 1, 3) := by decide +kernel
theorem dX8_digest_75 : decode cX8_digest 75 = .ok (.goto (-24), 3) := by decide +kernel
theorem dX8_digest_78 : decode cX8_digest 78 = .ok (.iinc 3 1, 3) := by decide +kernel
theorem dX8_digest_81 : decode cX8_digest 81 = .ok (.goto (-39), 3) := by decide +kernel
theorem dX8_digest_84 : decode cX8_digest 84 = .ok (.iconst 0, 1) := by decide +kernel
theorem dX8_digest_85 : decode cX8_digest 85 = .ok (.istore_n 3, 1) := by decide +kernel
theorem dX8_digest_86 : decode cX8_digest 86 = .ok (.iload_n 3, 1) := by decide +kernel
theorem dX8_digest_87 : decode cX8_digest 87 = .ok (.aload_n 0, 1) := by decide +kernel
theorem dX8_digest_88 : decode cX8_digest 88 = .ok (.getfield 71, 3) := by decide +kernel
theorem dX8_digest_91 : decode cX8_digest 91 = .ok (.if_icmp .ge 39, 3) := by decide +kernel
theorem dX8_digest_94 : decode cX8_digest 94 = .ok (.iconst 0, 1) := by decide +kernel
theorem dX8_digest_95 : decode cX8_digest 95 = .ok (.istore 4, 2) := by decide +kernel
theorem dX8_digest_97 : decode cX8_digest 97 = .ok (.iload 4, 2) := by decide +kernel
theorem dX8_digest_99 : decode cX8_digest 99 = .ok (.iconst 5, 1) := by decide +kernel
theorem dX8_digest_100 : decode cX8_digest 100 = .ok (.if_icmp .ge 24, 3) := by decide +kernel
theorem dX8_digest_103 : decode cX8_digest 103 = .ok (.lload_n 1, 1) := by decide +kernel
theorem dX8_digest_104 : decode cX8_digest 104 = .ok (.ldc2_w 175, 3) := by decide +kernel
theorem dX8_digest_107 : decode cX8_digest 107 = .ok (.lmul, 1) := by decide +kernel
theorem dX8_digest_108 : decode cX8_digest 108 = .ok (.aload_n 0, 1) := by decide +kernel
theorem dX8_digest_109 : decode cX8_digest 109 = .ok (.iload_n 3, 1) := by decide +kernel
theorem dX8_digest_110 : decode cX8_digest 110 = .ok (.iload 4, 2) := by decide +kernel
theorem dX8_digest_112 : decode cX8_digest 112 = .ok (.invokevirtual 115, 3) := by decide +kernel
theorem dX8_digest_115 : decode cX8_digest 115 = .ok (.i2l, 1) := by decide +kernel
theorem dX8_digest_116 : decode cX8_digest 116 = .ok (.ladd, 1) := by decide +kernel
theorem dX8_digest_117 : decode cX8_digest 117 = .ok (.lstore_n 1, 1) := by decide +kernel
theorem dX8_digest_118 : decode cX8_digest 118 = .ok (.iinc 4 1, 3) := by decide +kernel
theorem dX8_digest_121 : decode cX8_digest 121 = .ok (.goto (-24), 3) := by decide +kernel
theorem dX8_digest_124 : decode cX8_digest 124 = .ok (.iinc 3 1, 3) := by decide +kernel
theorem dX8_digest_127 : decode cX8_digest 127 = .ok (.goto (-41), 3) := by decide +kernel
theorem dX8_digest_130 : decode cX8_digest 130 = .ok (.iconst 0, 1) := by decide +kernel
theorem dX8_digest_131 : decode cX8_digest 131 = .ok (.istore_n 3, 1) := by decide +kernel
theorem dX8_digest_132 : decode cX8_digest 132 = .ok (.iload_n 3, 1) := by decide +kernel
theorem dX8_digest_133 : decode cX8_digest 133 = .ok (.aload_n 0, 1) := by decide +kernel
theorem dX8_digest_134 : decode cX8_digest 134 = .ok (.getfield 55, 3) := by decide +kernel
theorem dX8_digest_137 : decode cX8_digest 137 = .ok (.if_icmp .ge 39, 3) := by decide +kernel
theorem dX8_digest_140 : decode cX8_digest 140 = .ok (.iconst 0, 1) := by decide +kernel
theorem dX8_digest_141 : decode cX8_digest 141 = .ok (.istore 4, 2) := by decide +kernel
theorem dX8_digest_143 : decode cX8_digest 143 = .ok (.iload 4, 2) := by decide +kernel
theorem dX8_digest_145 : decode cX8_digest 145 = .ok (.iconst 5, 1) := by decide +kernel
theorem dX8_digest_146 : decode cX8_digest 146 = .ok (.if_icmp .ge 24, 3) := by decide +kernel
theorem dX8_digest_149 : decode cX8_digest 149 = .ok (.lload_n 1, 1) := by decide +kernel
theorem dX8_digest_150 : decode cX8_digest 150 = .ok (.ldc2_w 175, 3) := by decide +kernel
theorem dX8_digest_153 : decode cX8_digest 153 = .ok (.lmul, 1) := by decide +kernel
theorem dX8_digest_154 : decode cX8_digest 154 = .ok (.aload_n 0, 1) := by decide +kernel
theorem dX8_digest_155 : decode cX8_digest 155 = .ok (.iload_n 3, 1) := by decide +kernel
theorem dX8_digest_156 : decode cX8_digest 156 = .ok (.iload 4, 2) := by decide +kernel
theorem dX8_digest_158 : decode cX8_digest 158 = .ok (.invokevirtual 129, 3) := by decide +kernel
theorem dX8_digest_161 : decode cX8_digest 161 = .ok (.i2l, 1) := by decide +kernel
theorem dX8_digest_162 : decode cX8_digest 162 = .ok (.ladd, 1) := by decide +kernel
theorem dX8_digest_163 : decode cX8_digest 163 = .ok (.lstore_n 1, 1) := by decide +kernel
theorem dX8_digest_164 : decode cX8_digest 164 = .ok (.iinc 4 1, 3) := by decide +kernel
theorem dX8_digest_167 : decode cX8_digest 167 = .ok (.goto (-24), 3) := by decide +kernel
theorem dX8_digest_170 : decode cX8_digest 170 = .ok (.iinc 3 1, 3) := by decide +kernel
theorem dX8_digest_173 : decode cX8_digest 173 = .ok (.goto (-41), 3) := by decide +kernel
theorem dX8_digest_176 : decode cX8_digest 176 = .ok (.iconst 0, 1) := by decide +kernel
theorem dX8_digest_177 : decode cX8_digest 177 = .ok (.istore_n 3, 1) := by decide +kernel
theorem dX8_digest_178 : decode cX8_digest 178 = .ok (.iload_n 3, 1) := by decide +kernel
theorem dX8_digest_179 : decode cX8_digest 179 = .ok (.aload_n 0, 1) := by decide +kernel
theorem dX8_digest_180 : decode cX8_digest 180 = .ok (.getfield 58, 3) := by decide +kernel
theorem dX8_digest_183 : decode cX8_digest 183 = .ok (.if_icmp .ge 26, 3) := by decide +kernel
theorem dX8_digest_186 : decode cX8_digest 186 = .ok (.lload_n 1, 1) := by decide +kernel
theorem dX8_digest_187 : decode cX8_digest 187 = .ok (.ldc2_w 175, 3) := by decide +kernel
theorem dX8_digest_190 : decode cX8_digest 190 = .ok (.lmul, 1) := by decide +kernel
theorem dX8_digest_191 : decode cX8_digest 191 = .ok (.aload_n 0, 1) := by decide +kernel
theorem dX8_digest_192 : decode cX8_digest 192 = .ok (.getfield 40, 3) := by decide +kernel
theorem dX8_digest_195 : decode cX8_digest 195 = .ok (.getfield 135, 3) := by decide +kernel
theorem dX8_digest_198 : decode cX8_digest 198 = .ok (.iload_n 3, 1) := by decide +kernel
theorem dX8_digest_199 : decode cX8_digest 199 = .ok (.iaload, 1) := by decide +kernel
theorem dX8_digest_200 : decode cX8_digest 200 = .ok (.i2l, 1) := by decide +kernel
theorem dX8_digest_201 : decode cX8_digest 201 = .ok (.ladd, 1) := by decide +kernel
theorem dX8_digest_202 : decode cX8_digest 202 = .ok (.lstore_n 1, 1) := by decide +kernel
theorem dX8_digest_203 : decode cX8_digest 203 = .ok (.iinc 3 1, 3) := by decide +kernel
theorem dX8_digest_206 : decode cX8_digest 206 = .ok (.goto (-28), 3) := by decide +kernel
theorem dX8_digest_209 : decode cX8_digest 209 = .ok (.lload_n 1, 1) := by decide +kernel
theorem dX8_digest_210 : decode cX8_digest 210 = .ok (.lreturn, 1) := by decide +kernel

theorem dX0_init_0 : decode cX0_init 0 = .ok (.aload_n 0, 1) := by decide +kernel
theorem dX0_init_1 : decode cX0_init 1 = .ok (.invokespecial 3, 3) := by decide +kernel
theorem dX0_init_4 : decode cX0_init 4 = .ok (.aload_n 0, 1) := by decide +kernel
theorem dX0_init_5 : decode cX0_init 5 = .ok (.iconst 0, 1) := by decide +kernel
theorem dX0_init_6 : decode cX0_init 6 = .ok (.putfield 9, 3) := by decide +kernel
theorem dX0_init_9 : decode cX0_init 9 = .ok (.aload_n 0, 1) := by decide +kernel
theorem dX0_init_10 : decode cX0_init 10 = .ok (.bipush 100, 2) := by decide +kernel
theorem dX0_init_12 : decode cX0_init 12 = .ok (.putfield 15, 3) := by decide +kernel
theorem dX0_init_15 : decode cX0_init 15 = .ok (.aload_n 0, 1) := by decide +kernel
theorem dX0_init_16 : decode cX0_init 16 = .ok (.bipush 30, 2) := by decide +kernel
theorem dX0_init_18 : decode cX0_init 18 = .ok (.newarray .int, 2) := by decide +kernel
theorem dX0_init_20 : decode cX0_init 20 = .ok (.putfield 18, 3) := by decide +kernel
theorem dX0_init_23 : decode cX0_init 23 = .ok (.aload_n 0, 1) := by decide +kernel
theorem dX0_init_24 : decode cX0_init 24 = .ok (.iconst 5, 1) := by decide +kernel
theorem dX0_init_25 : decode cX0_init 25 = .ok (.newarray .int, 2) := by decide +kernel
theorem dX0_init_27 : decode cX0_init 27 = .ok (.putfield 22, 3) := by decide +kernel
theorem dX0_init_30 : decode cX0_init 30 = .ok (.return_, 1) := by decide +kernel
theorem dX0_becomeLike_0 : decode cX0_becomeLike 0 = .ok (.aload_n 0, 1) := by decide +kernel
theorem dX0_becomeLike_1 : decode cX0_becomeLike 1 = .ok (.aload_n 1, 1) := by decide +kernel
theorem dX0_becomeLike_2 : decode cX0_becomeLike 2 = .ok (.getfield 9, 3) := by decide +kernel
theorem dX0_becomeLike_5 : decode cX0_becomeLike 5 = .ok (.putfield 9, 3) := by decide +kernel
theorem dX0_becomeLike_8 : decode cX0_becomeLike 8 = .ok (.aload_n 0, 1) := by decide +kernel
theorem dX0_becomeLike_9 : decode cX0_becomeLike 9 = .ok (.aload_n 1, 1) := by decide +kernel
theorem dX0_becomeLike_10 : decode cX0_becomeLike 10 = .ok (.getfield 15, 3) := by decide +kernel
theorem dX0_becomeLike_13 : decode cX0_becomeLike 13 = .ok (.putfield 15, 3) := by decide +kernel
theorem dX0_becomeLike_16 : decode cX0_becomeLike 16 = .ok (.iconst 0, 1) := by decide +kernel
theorem dX0_becomeLike_17 : decode cX0_becomeLike 17 = .ok (.istore_n 2, 1) := by decide +kernel
theorem dX0_becomeLike_18 : decode cX0_becomeLike 18 = .ok (.iload_n 2, 1) := by decide +kernel
theorem dX0_becomeLike_19 : decode cX0_becomeLike 19 = .ok (.bipush 30, 2) := by decide +kernel
theorem dX0_becomeLike_21 : decode cX0_becomeLike 21 = .ok (.if_icmp .ge 21, 3) := by decide +kernel
theorem dX0_becomeLike_24 : decode cX0_becomeLike 24 = .ok (.aload_n 0, 1) := by decide +kernel
theorem dX0_becomeLike_25 : decode cX0_becomeLike 25 = .ok (.getfield 18, 3) := by decide +kernel
theorem dX0_becomeLike_28 : decode cX0_becomeLike 28 = .ok (.iload_n 2, 1) := by decide +kernel
theorem dX0_becomeLike_29 : decode cX0_becomeLike 29 = .ok (.aload_n 1, 1) := by decide +kernel
theorem dX0_becomeLike_30 : decode cX0_becomeLike 30 = .ok (.getfield 18, 3) := by decide +kernel
theorem dX0_becomeLike_33 : decode cX0_becomeLike 33 = .ok (.iload_n 2, 1) := by decide +kernel
theorem dX0_becomeLike_34 : decode cX0_becomeLike 34 = .ok (.iaload, 1) := by decide +kernel
theorem dX0_becomeLike_35 : decode cX0_becomeLike 35 = .ok (.iastore, 1) := by decide +kernel
theorem dX0_becomeLike_36 : decode cX0_becomeLike 36 = .ok (.iinc 2 1, 3) := by decide +kernel
theorem dX0_becomeLike_39 : decode cX0_becomeLike 39 = .ok (.goto (-21), 3) := by decide +kernel
theorem dX0_becomeLike_42 : decode cX0_becomeLike 42 = .ok (.iconst 0, 1) := by decide +kernel
theorem dX0_becomeLike_43 : decode cX0_becomeLike 43 = .ok (.istore_n 2, 1) := by decide +kernel
theorem dX0_becomeLike_44 : decode cX0_becomeLike 44 = .ok (.iload_n 2, 1) := by decide +kernel
theorem dX0_becomeLike_45 : decode cX0_becomeLike 45 = .ok (.iconst 5, 1) := by decide +kernel
theorem dX0_becomeLike_46 : decode cX0_becomeLike 46 = .ok (.if_icmp .ge 21, 3) := by decide +kernel
theorem dX0_becomeLike_49 : decode cX0_becomeLike 49 = .ok (.aload_n 0, 1) := by decide +kernel
theorem dX0_becomeLike_50 : decode cX0_becomeLike 50 = .ok (.getfield 22, 3) := by decide +kernel
theorem dX0_becomeLike_53 : decode cX0_becomeLike 53 = .ok (.iload_n 2, 1) := by decide +kernel
theorem dX0_becomeLike_54 : decode cX0_becomeLike 54 = .ok (.aload_n 1, 1) := by decide +kernel
theorem dX0_becomeLike_55 : decode cX0_becomeLike 55 = .ok (.getfield 22, 3) := by decide +kernel
theorem dX0_becomeLike_58 : decode cX0_becomeLike 58 = .ok (.iload_n 2, 1) := by decide +kernel
theorem dX0_becomeLike_59 : decode cX0_becomeLike 59 = .ok (.iaload, 1) := by decide +kernel
theorem dX0_becomeLike_60 : decode cX0_becomeLike 60 = .ok (.iastore, 1) := by decide +kernel
theorem dX0_becomeLike_61 : decode cX0_becomeLike 61 = .ok (.iinc 2 1, 3) := by decide +kernel
theorem dX0_becomeLike_64 : decode cX0_becomeLike 64 = .ok (.goto (-20), 3) := by decide +kernel
theorem dX0_becomeLike_67 : decode cX0_becomeLike 67 = .ok (.return_, 1) := by decide +kernel
theorem dX0_isFullMoon_0 : decode cX0_isFullMoon 0 = .ok (.aload_n 0, 1) := by decide +kernel
theorem dX0_isFullMoon_1 : decode cX0_isFullMoon 1 = .ok (.getfield 9, 3) := by decide +kernel
theorem dX0_isFullMoon_4 : decode cX0_isFullMoon 4 = .ok (.bipush 8, 2) := by decide +kernel
theorem dX0_isFullMoon_6 : decode cX0_isFullMoon 6 = .ok (.irem, 1) := by decide +kernel
theorem dX0_isFullMoon_7 : decode cX0_isFullMoon 7 = .ok (.iconst 4, 1) := by decide +kernel
theorem dX0_isFullMoon_8 : decode cX0_isFullMoon 8 = .ok (.if_icmp .ne 7, 3) := by decide +kernel
theorem dX0_isFullMoon_11 : decode cX0_isFullMoon 11 = .ok (.iconst 1, 1) := by decide +kernel
theorem dX0_isFullMoon_12 : decode cX0_isFullMoon 12 = .ok (.goto 4, 3) := by decide +kernel
theorem dX0_isFullMoon_15 : decode cX0_isFullMoon 15 = .ok (.iconst 0, 1) := by decide +kernel
theorem dX0_isFullMoon_16 : decode cX0_isFullMoon 16 = .ok (.ireturn, 1) := by decide +kernel
theorem dX0_carpSize_0 : decode cX0_carpSize 0 = .ok (.iload_n 1, 1) := by decide +kernel
theorem dX0_carpSize_1 : decode cX0_carpSize 1 = .ok (.ifCond .lt 18, 3) := by decide +kernel
theorem dX0_carpSize_4 : decode cX0_carpSize 4 = .ok (.iload_n 1, 1) := by decide +kernel
theorem dX0_carpSize_5 : decode cX0_carpSize 5 = .ok (.bipush 30, 2) := by decide +kernel
theorem dX0_carpSize_7 : decode cX0_carpSize 7 = .ok (.if_icmp .ge 12, 3) := by decide +kernel
theorem dX0_carpSize_10 : decode cX0_carpSize 10 = .ok (.aload_n 0, 1) := by decide +kernel
theorem dX0_carpSize_11 : decode cX0_carpSize 11 = .ok (.getfield 18, 3) := by decide +kernel
theorem dX0_carpSize_14 : decode cX0_carpSize 14 = .ok (.iload_n 1, 1) := by decide +kernel
theorem dX0_carpSize_15 : decode cX0_carpSize 15 = .ok (.iaload, 1) := by decide +kernel
theorem dX0_carpSize_16 : decode cX0_carpSize 16 = .ok (.goto 4, 3) := by decide +kernel
theorem dX0_carpSize_19 : decode cX0_carpSize 19 = .ok (.iconst 0, 1) := by decide +kernel
theorem dX0_carpSize_20 : decode cX0_carpSize 20 = .ok (.ireturn, 1) := by decide +kernel
theorem dX0_setCarpSize_0 : decode cX0_setCarpSize 0 = .ok (.iload_n 1, 1) := by decide +kernel
theorem dX0_setCarpSize_1 : decode cX0_setCarpSize 1 = .ok (.ifCond .lt 25, 3) := by decide +kernel
theorem dX0_setCarpSize_4 : decode cX0_setCarpSize 4 = .ok (.iload_n 1, 1) := by decide +kernel
theorem dX0_setCarpSize_5 : decode cX0_setCarpSize 5 = .ok (.bipush 30, 2) := by decide +kernel
theorem dX0_setCarpSize_7 : decode cX0_setCarpSize 7 = .ok (.if_icmp .ge 19, 3) := by decide +kernel
theorem dX0_setCarpSize_10 : decode cX0_setCarpSize 10 = .ok (.aload_n 0, 1) := by decide +kernel
theorem dX0_setCarpSize_11 : decode cX0_setCarpSize 11 = .ok (.getfield 18, 3) := by decide +kernel
theorem dX0_setCarpSize_14 : decode cX0_setCarpSize 14 = .ok (.iload_n 1, 1) := by decide +kernel
theorem dX0_setCarpSize_15 : decode cX0_setCarpSize 15 = .ok (.iconst 1, 1) := by decide +kernel
theorem dX0_setCarpSize_16 : decode cX0_setCarpSize 16 = .ok (.bipush 40, 2) := by decide +kernel
theorem dX0_setCarpSize_18 : decode cX0_setCarpSize 18 = .ok (.iload_n 2, 1) := by decide +kernel
theorem dX0_setCarpSize_19 : decode cX0_setCarpSize 19 = .ok (.invokestatic 25, 3) := by decide +kernel
theorem dX0_setCarpSize_22 : decode cX0_setCarpSize 22 = .ok (.invokestatic 31, 3) := by decide +kernel
theorem dX0_setCarpSize_25 : decode cX0_setCarpSize 25 = .ok (.iastore, 1) := by decide +kernel
theorem dX0_setCarpSize_26 : decode cX0_setCarpSize 26 = .ok (.return_, 1) := by decide +kernel
theorem dX0_written_0 : decode cX0_written 0 = .ok (.iload_n 1, 1) := by decide +kernel
theorem dX0_written_1 : decode cX0_written 1 = .ok (.ifCond .lt 17, 3) := by decide +kernel
theorem dX0_written_4 : decode cX0_written 4 = .ok (.iload_n 1, 1) := by decide +kernel
theorem dX0_written_5 : decode cX0_written 5 = .ok (.iconst 5, 1) := by decide +kernel
theorem dX0_written_6 : decode cX0_written 6 = .ok (.if_icmp .ge 12, 3) := by decide +kernel
theorem dX0_written_9 : decode cX0_written 9 = .ok (.aload_n 0, 1) := by decide +kernel
theorem dX0_written_10 : decode cX0_written 10 = .ok (.getfield 22, 3) := by decide +kernel
theorem dX0_written_13 : decode cX0_written 13 = .ok (.iload_n 1, 1) := by decide +kernel
theorem dX0_written_14 : decode cX0_written 14 = .ok (.iaload, 1) := by decide +kernel
theorem dX0_written_15 : decode cX0_written 15 = .ok (.goto 4, 3) := by decide +kernel
theorem dX0_written_18 : decode cX0_written 18 = .ok (.iconst 0, 1) := by decide +kernel
theorem dX0_written_19 : decode cX0_written 19 = .ok (.ireturn, 1) := by decide +kernel
theorem dX0_addWritten_0 : decode cX0_addWritten 0 = .ok (.iload_n 1, 1) := by decide +kernel
theorem dX0_addWritten_1 : decode cX0_addWritten 1 = .ok (.ifCond .lt 18, 3) := by decide +kernel
theorem dX0_addWritten_4 : decode cX0_addWritten 4 = .ok (.iload_n 1, 1) := by decide +kernel
theorem dX0_addWritten_5 : decode cX0_addWritten 5 = .ok (.iconst 5, 1) := by decide +kernel
theorem dX0_addWritten_6 : decode cX0_addWritten 6 = .ok (.if_icmp .ge 13, 3) := by decide +kernel
theorem dX0_addWritten_9 : decode cX0_addWritten 9 = .ok (.aload_n 0, 1) := by decide +kernel
theorem dX0_addWritten_10 : decode cX0_addWritten 10 = .ok (.getfield 22, 3) := by decide +kernel
theorem dX0_addWritten_13 : decode cX0_addWritten 13 = .ok (.iload_n 1, 1) := by decide +kernel
theorem dX0_addWritten_14 : decode cX0_addWritten 14 = .ok (.dup2, 1) := by decide +kernel
theorem dX0_addWritten_15 : decode cX0_addWritten 15 = .ok (.iaload, 1) := by decide +kernel
theorem dX0_addWritten_16 : decode cX0_addWritten 16 = .ok (.iload_n 2, 1) := by decide +kernel
theorem dX0_addWritten_17 : decode cX0_addWritten 17 = .ok (.iadd, 1) := by decide +kernel
theorem dX0_addWritten_18 : decode cX0_addWritten 18 = .ok (.iastore, 1) := by decide +kernel
theorem dX0_addWritten_19 : decode cX0_addWritten 19 = .ok (.return_, 1) := by decide +kernel
theorem dX0_writtenByAll_0 : decode cX0_writtenByAll 0 = .ok (.iconst 0, 1) := by decide +kernel
theorem dX0_writtenByAll_1 : decode cX0_writtenByAll 1 = .ok (.istore_n 1, 1) := by decide +kernel
theorem dX0_writtenByAll_2 : decode cX0_writtenByAll 2 = .ok (.iconst 0, 1) := by decide +kernel
theorem dX0_writtenByAll_3 : decode cX0_writtenByAll 3 = .ok (.istore_n 2, 1) := by decide +kernel
theorem dX0_writtenByAll_4 : decode cX0_writtenByAll 4 = .ok (.iload_n 2, 1) := by decide +kernel
theorem dX0_writtenByAll_5 : decode cX0_writtenByAll 5 = .ok (.iconst 5, 1) := by decide +kernel
theorem dX0_writtenByAll_6 : decode cX0_writtenByAll 6 = .ok (.if_icmp .ge 18, 3) := by decide +kernel
theorem dX0_writtenByAll_9 : decode cX0_writtenByAll 9 = .ok (.iload_n 1, 1) := by decide +kernel
theorem dX0_writtenByAll_10 : decode cX0_writtenByAll 10 = .ok (.aload_n 0, 1) := by decide +kernel
theorem dX0_writtenByAll_11 : decode cX0_writtenByAll 11 = .ok (.getfield 22, 3) := by decide +kernel
theorem dX0_writtenByAll_14 : decode cX0_writtenByAll 14 = .ok (.iload_n 2, 1) := by decide +kernel
theorem dX0_writtenByAll_15 : decode cX0_writtenByAll 15 = .ok (.iaload, 1) := by decide +kernel
theorem dX0_writtenByAll_16 : decode cX0_writtenByAll 16 = .ok (.iadd, 1) := by decide +kernel
theorem dX0_writtenByAll_17 : decode cX0_writtenByAll 17 = .ok (.istore_n 1, 1) := by decide +kernel
theorem dX0_writtenByAll_18 : decode cX0_writtenByAll 18 = .ok (.iinc 2 1, 3) := by decide +kernel
theorem dX0_writtenByAll_21 : decode cX0_writtenByAll 21 = .ok (.goto (-17), 3) := by decide +kernel
theorem dX0_writtenByAll_24 : decode cX0_writtenByAll 24 = .ok (.iload_n 1, 1) := by decide +kernel
theorem dX0_writtenByAll_25 : decode cX0_writtenByAll 25 = .ok (.ireturn, 1) := by decide +kernel
theorem dX1_init_0 : decode cX1_init 0 = .ok (.aload_n 0, 1) := by decide +kernel
theorem dX1_init_1 : decode cX1_init 1 = .ok (.invokespecial 3, 3) := by decide +kernel
theorem dX1_init_4 : decode cX1_init 4 = .ok (.aload_n 0, 1) := by decide +kernel
theorem dX1_init_5 : decode cX1_init 5 = .ok (.bipush 70, 2) := by decide +kernel
theorem dX1_init_7 : decode cX1_init 7 = .ok (.newarray .int, 2) := by decide +kernel
theorem dX1_init_9 : decode cX1_init 9 = .ok (.putfield 11, 3) := by decide +kernel
theorem dX1_init_12 : decode cX1_init 12 = .ok (.aload_n 0, 1) := by decide +kernel
theorem dX1_init_13 : decode cX1_init 13 = .ok (.bipush 70, 2) := by decide +kernel
theorem dX1_init_15 : decode cX1_init 15 = .ok (.newarray .int, 2) := by decide +kernel
theorem dX1_init_17 : decode cX1_init 17 = .ok (.putfield 15, 3) := by decide +kernel
theorem dX1_init_20 : decode cX1_init 20 = .ok (.aload_n 0, 1) := by decide +kernel
theorem dX1_init_21 : decode cX1_init 21 = .ok (.bipush 70, 2) := by decide +kernel
theorem dX1_init_23 : decode cX1_init 23 = .ok (.newarray .int, 2) := by decide +kernel
theorem dX1_init_25 : decode cX1_init 25 = .ok (.putfield 18, 3) := by decide +kernel
theorem dX1_init_28 : decode cX1_init 28 = .ok (.aload_n 0, 1) := by decide +kernel
theorem dX1_init_29 : decode cX1_init 29 = .ok (.bipush 70, 2) := by decide +kernel
theorem dX1_init_31 : decode cX1_init 31 = .ok (.newarray .int, 2) := by decide +kernel
theorem dX1_init_33 : decode cX1_init 33 = .ok (.putfield 21, 3) := by decide +kernel
theorem dX1_init_36 : decode cX1_init 36 = .ok (.aload_n 0, 1) := by decide +kernel
theorem dX1_init_37 : decode cX1_init 37 = .ok (.bipush 70, 2) := by decide +kernel
theorem dX1_init_39 : decode cX1_init 39 = .ok (.newarray .int, 2) := by decide +kernel
theorem dX1_init_41 : decode cX1_init 41 = .ok (.putfield 24, 3) := by decide +kernel
theorem dX1_init_44 : decode cX1_init 44 = .ok (.aload_n 0, 1) := by decide +kernel
theorem dX1_init_45 : decode cX1_init 45 = .ok (.bipush 70, 2) := by decide +kernel
theorem dX1_init_47 : decode cX1_init 47 = .ok (.newarray .int, 2) := by decide +kernel
theorem dX1_init_49 : decode cX1_init 49 = .ok (.putfield 27, 3) := by decide +kernel
theorem dX1_init_52 : decode cX1_init 52 = .ok (.aload_n 0, 1) := by decide +kernel
theorem dX1_init_53 : decode cX1_init 53 = .ok (.bipush 70, 2) := by decide +kernel
theorem dX1_init_55 : decode cX1_init 55 = .ok (.newarray .int, 2) := by decide +kernel
theorem dX1_init_57 : decode cX1_init 57 = .ok (.putfield 30, 3) := by decide +kernel
theorem dX1_init_60 : decode cX1_init 60 = .ok (.aload_n 0, 1) := by decide +kernel
theorem dX1_init_61 : decode cX1_init 61 = .ok (.bipush 70, 2) := by decide +kernel
theorem dX1_init_63 : decode cX1_init 63 = .ok (.newarray .int, 2) := by decide +kernel
theorem dX1_init_65 : decode cX1_init 65 = .ok (.putfield 33, 3) := by decide +kernel
theorem dX1_init_68 : decode cX1_init 68 = .ok (.aload_n 0, 1) := by decide +kernel
theorem dX1_init_69 : decode cX1_init 69 = .ok (.iconst 0, 1) := by decide +kernel
theorem dX1_init_70 : decode cX1_init 70 = .ok (.putfield 36, 3) := by decide +kernel
theorem dX1_init_73 : decode cX1_init 73 = .ok (.iconst 0, 1) := by decide +kernel
theorem dX1_init_74 : decode cX1_init 74 = .ok (.istore_n 1, 1) := by decide +kernel
theorem dX1_init_75 : decode cX1_init 75 = .ok (.iload_n 1, 1) := by decide +kernel
theorem dX1_init_76 : decode cX1_init 76 = .ok (.bipush 70, 2) := by decide +kernel
theorem dX1_init_78 : decode cX1_init 78 = .ok (.if_icmp .ge 23, 3) := by decide +kernel
theorem dX1_init_81 : decode cX1_init 81 = .ok (.aload_n 0, 1) := by decide +kernel
theorem dX1_init_82 : decode cX1_init 82 = .ok (.getfield 15, 3) := by decide +kernel
theorem dX1_init_85 : decode cX1_init 85 = .ok (.iload_n 1, 1) := by decide +kernel
theorem dX1_init_86 : decode cX1_init 86 = .ok (.iconst (-1), 1) := by decide +kernel
theorem dX1_init_87 : decode cX1_init 87 = .ok (.iastore, 1) := by decide +kernel
theorem dX1_init_88 : decode cX1_init 88 = .ok (.aload_n 0, 1) := by decide +kernel
theorem dX1_init_89 : decode cX1_init 89 = .ok (.getfield 24, 3) := by decide +kernel
theorem dX1_init_92 : decode cX1_init 92 = .ok (.iload_n 1, 1) := by decide +kernel
theorem dX1_init_93 : decode cX1_init 93 = .ok (.iconst (-1), 1) := by decide +kernel
theorem dX1_init_94 : decode cX1_init 94 = .ok (.iastore, 1) := by decide +kernel
theorem dX1_init_95 : decode cX1_init 95 = .ok (.iinc 1 1, 3) := by decide +kernel
theorem dX1_init_98 : decode cX1_init 98 = .ok (.goto (-23), 3) := by decide +kernel
theorem dX1_init_101 : decode cX1_init 101 = .ok (.return_, 1) := by decide +kernel
theorem dX1_isInside_0 : decode cX1_isInside 0 = .ok (.iload_n 0, 1) := by decide +kernel
theorem dX1_isInside_1 : decode cX1_isInside 1 = .ok (.ifCond .lt 23, 3) := by decide +kernel
theorem dX1_isInside_4 : decode cX1_isInside 4 = .ok (.iload_n 0, 1) := by decide +kernel
theorem dX1_isInside_5 : decode cX1_isInside 5 = .ok (.bipush 10, 2) := by decide +kernel
theorem dX1_isInside_7 : decode cX1_isInside 7 = .ok (.if_icmp .ge 17, 3) := by decide +kernel
theorem dX1_isInside_10 : decode cX1_isInside 10 = .ok (.iload_n 1, 1) := by decide +kernel
theorem dX1_isInside_11 : decode cX1_isInside 11 = .ok (.ifCond .lt 13, 3) := by decide +kernel
theorem dX1_isInside_14 : decode cX1_isInside 14 = .ok (.iload_n 1, 1) := by decide +kernel
theorem dX1_isInside_15 : decode cX1_isInside 15 = .ok (.bipush 7, 2) := by decide +kernel
theorem dX1_isInside_17 : decode cX1_isInside 17 = .ok (.if_icmp .ge 7, 3) := by decide +kernel
theorem dX1_isInside_20 : decode cX1_isInside 20 = .ok (.iconst 1, 1) := by decide +kernel
theorem dX1_isInside_21 : decode cX1_isInside 21 = .ok (.goto 4, 3) := by decide +kernel
theorem dX1_isInside_24 : decode cX1_isInside 24 = .ok (.iconst 0, 1) := by decide +kernel
theorem dX1_isInside_25 : decode cX1_isInside 25 = .ok (.ireturn, 1) := by decide +kernel
theorem dX1_numberOf_0 : decode cX1_numberOf 0 = .ok (.bipush 10, 2) := by decide +kernel
theorem dX1_numberOf_2 : decode cX1_numberOf 2 = .ok (.iload_n 1, 1) := by decide +kernel
theorem dX1_numberOf_3 : decode cX1_numberOf 3 = .ok (.imul, 1) := by decide +kernel
theorem dX1_numberOf_4 : decode cX1_numberOf 4 = .ok (.iload_n 0, 1) := by decide +kernel
theorem dX1_numberOf_5 : decode cX1_numberOf 5 = .ok (.iadd, 1) := by decide +kernel
theorem dX1_numberOf_6 : decode cX1_numberOf 6 = .ok (.ireturn, 1) := by decide +kernel
theorem dX1_isDirection_0 : decode cX1_isDirection 0 = .ok (.iload_n 0, 1) := by decide +kernel
theorem dX1_isDirection_1 : decode cX1_isDirection 1 = .ok (.ifCond .lt 12, 3) := by decide +kernel
theorem dX1_isDirection_4 : decode cX1_isDirection 4 = .ok (.iload_n 0, 1) := by decide +kernel
theorem dX1_isDirection_5 : decode cX1_isDirection 5 = .ok (.iconst 4, 1) := by decide +kernel
theorem dX1_isDirection_6 : decode cX1_isDirection 6 = .ok (.if_icmp .ge 7, 3) := by decide +kernel
theorem dX1_isDirection_9 : decode cX1_isDirection 9 = .ok (.iconst 1, 1) := by decide +kernel
theorem dX1_isDirection_10 : decode cX1_isDirection 10 = .ok (.goto 4, 3) := by decide +kernel
theorem dX1_isDirection_13 : decode cX1_isDirection 13 = .ok (.iconst 0, 1) := by decide +kernel
theorem dX1_isDirection_14 : decode cX1_isDirection 14 = .ok (.ireturn, 1) := by decide +kernel
theorem dX1_isPlace_0 : decode cX1_isPlace 0 = .ok (.iload_n 0, 1) := by decide +kernel
theorem dX1_isPlace_1 : decode cX1_isPlace 1 = .ok (.ifCond .lt 13, 3) := by decide +kernel
theorem dX1_isPlace_4 : decode cX1_isPlace 4 = .ok (.iload_n 0, 1) := by decide +kernel
theorem dX1_isPlace_5 : decode cX1_isPlace 5 = .ok (.bipush 70, 2) := by decide +kernel
theorem dX1_isPlace_7 : decode cX1_isPlace 7 = .ok (.if_icmp .ge 7, 3) := by decide +kernel
theorem dX1_isPlace_10 : decode cX1_isPlace 10 = .ok (.iconst 1, 1) := by decide +kernel
theorem dX1_isPlace_11 : decode cX1_isPlace 11 = .ok (.goto 4, 3) := by decide +kernel
theorem dX1_isPlace_14 : decode cX1_isPlace 14 = .ok (.iconst 0, 1) := by decide +kernel
theorem dX1_isPlace_15 : decode cX1_isPlace 15 = .ok (.ireturn, 1) := by decide +kernel
set_option maxRecDepth 20000 in
theorem ggX1_beside_X1_isPlace : GoodIn wsX1_beside wsX1_isPlace := goodIn_r _ [6] (by decide +kernel) (by decide +kernel)
set_option maxRecDepth 20000 in
theorem gX1_beside_X1_isPlace : GoodIn wsX1_beside (va_wsS RX1 40 yX1_isPlace wsX1_isPlace) := goodIn_app (goodIn_of _ (by decide +kernel)) ggX1_beside_X1_isPlace
set_option maxRecDepth 20000 in
theorem ggX1_beside_X1_isDirection : GoodIn wsX1_beside wsX1_isDirection := goodIn_r _ [9] (by decide +kernel) (by decide +kernel)
set_option maxRecDepth 20000 in
theorem gX1_beside_X1_isDirection : GoodIn wsX1_beside (va_wsS RX1 44 yX1_isDirection wsX1_isDirection) := goodIn_app (goodIn_of _ (by decide +kernel)) ggX1_beside_X1_isDirection
set_option maxRecDepth 20000 in
theorem ggX1_beside_X1_isInside : GoodIn wsX1_beside wsX1_isInside := goodIn_r _ [12] (by decide +kernel) (by decide +kernel)
set_option maxRecDepth 20000 in
theorem gX1_beside_X1_isInside : GoodIn wsX1_beside (va_wsS RX1 53 yX1_isInside wsX1_isInside) := goodIn_app (goodIn_of _ (by decide +kernel)) ggX1_beside_X1_isInside
set_option maxRecDepth 20000 in
theorem ggX1_beside_X1_numberOf : GoodIn wsX1_beside wsX1_numberOf := goodIn_r _ [15] (by decide +kernel) (by decide +kernel)
set_option maxRecDepth 20000 in
theorem gX1_beside_X1_numberOf : GoodIn wsX1_beside (va_wsS RX1 57 yX1_numberOf wsX1_numberOf) := goodIn_app (goodIn_of _ (by decide +kernel)) ggX1_beside_X1_numberOf
theorem dX1_beside_0 : decode cX1_beside 0 = .ok (.iload_n 1, 1) := by decide +kernel
theorem dX1_beside_1 : decode cX1_beside 1 = .ok (.invokestatic 40, 3) := by decide +kernel
theorem dX1_beside_4 : decode cX1_beside 4 = .ok (.ifCond .eq 10, 3) := by decide +kernel
theorem dX1_beside_7 : decode cX1_beside 7 = .ok (.iload_n 2, 1) := by decide +kernel
theorem dX1_beside_8 : decode cX1_beside 8 = .ok (.invokestatic 44, 3) := by decide +kernel
theorem dX1_beside_11 : decode cX1_beside 11 = .ok (.ifCond .ne 5, 3) := by decide +kernel
theorem dX1_beside_14 : decode cX1_beside 14 = .ok (.iconst (-1), 1) := by decide +kernel
theorem dX1_beside_15 : decode cX1_beside 15 = .ok (.ireturn, 1) := by decide +kernel
theorem dX1_beside_16 : decode cX1_beside 16 = .ok (.iload_n 1, 1) := by decide +kernel
theorem dX1_beside_17 : decode cX1_beside 17 = .ok (.bipush 10, 2) := by decide +kernel
theorem dX1_beside_19 : decode cX1_beside 19 = .ok (.irem, 1) := by decide +kernel
theorem dX1_beside_20 : decode cX1_beside 20 = .ok (.getstatic 47, 3) := by decide +kernel
theorem dX1_beside_23 : decode cX1_beside 23 = .ok (.iload_n 2, 1) := by decide +kernel
theorem dX1_beside_24 : decode cX1_beside 24 = .ok (.iaload, 1) := by decide +kernel
theorem dX1_beside_25 : decode cX1_beside 25 = .ok (.iadd, 1) := by decide +kernel
theorem dX1_beside_26 : decode cX1_beside 26 = .ok (.istore_n 3, 1) := by decide +kernel
theorem dX1_beside_27 : decode cX1_beside 27 = .ok (.iload_n 1, 1) := by decide +kernel
theorem dX1_beside_28 : decode cX1_beside 28 = .ok (.bipush 10, 2) := by decide +kernel
theorem dX1_beside_30 : decode cX1_beside 30 = .ok (.idiv, 1) := by decide +kernel
theorem dX1_beside_31 : decode cX1_beside 31 = .ok (.getstatic 50, 3) := by decide +kernel
theorem dX1_beside_34 : decode cX1_beside 34 = .ok (.iload_n 2, 1) := by decide +kernel
theorem dX1_beside_35 : decode cX1_beside 35 = .ok (.iaload, 1) := by decide +kernel
theorem dX1_beside_36 : decode cX1_beside 36 = .ok (.iadd, 1) := by decide +kernel
theorem dX1_beside_37 : decode cX1_beside 37 = .ok (.istore 4, 2) := by decide +kernel
theorem dX1_beside_39 : decode cX1_beside 39 = .ok (.iload_n 3, 1) := by decide +kernel
theorem dX1_beside_40 : decode cX1_beside 40 = .ok (.iload 4, 2) := by decide +kernel
theorem dX1_beside_42 : decode cX1_beside 42 = .ok (.invokestatic 53, 3) := by decide +kernel
theorem dX1_beside_45 : decode cX1_beside 45 = .ok (.ifCond .eq 12, 3) := by decide +kernel
theorem dX1_beside_48 : decode cX1_beside 48 = .ok (.iload_n 3, 1) := by decide +kernel
theorem dX1_beside_49 : decode cX1_beside 49 = .ok (.iload 4, 2) := by decide +kernel
theorem dX1_beside_51 : decode cX1_beside 51 = .ok (.invokestatic 57, 3) := by decide +kernel
theorem dX1_beside_54 : decode cX1_beside 54 = .ok (.goto 4, 3) := by decide +kernel
theorem dX1_beside_57 : decode cX1_beside 57 = .ok (.iconst (-1), 1) := by decide +kernel
theorem dX1_beside_58 : decode cX1_beside 58 = .ok (.ireturn, 1) := by decide +kernel
set_option maxRecDepth 20000 in
theorem ggX1_kindAt_X1_isPlace : GoodIn wsX1_kindAt wsX1_isPlace := goodIn_r _ [5] (by decide +kernel) (by decide +kernel)
set_option maxRecDepth 20000 in
theorem gX1_kindAt_X1_isPlace : GoodIn wsX1_kindAt (va_wsS RX1 40 yX1_isPlace wsX1_isPlace) := goodIn_app (goodIn_of _ (by decide +kernel)) ggX1_kindAt_X1_isPlace
theorem dX1_kindAt_0 : decode cX1_kindAt 0 = .ok (.iload_n 1, 1) := by decide +kernel
theorem dX1_kindAt_1 : decode cX1_kindAt 1 = .ok (.invokestatic 40, 3) := by decide +kernel
theorem dX1_kindAt_4 : decode cX1_kindAt 4 = .ok (.ifCond .eq 12, 3) := by decide +kernel
theorem dX1_kindAt_7 : decode cX1_kindAt 7 = .ok (.aload_n 0, 1) := by decide +kernel
theorem dX1_kindAt_8 : decode cX1_kindAt 8 = .ok (.getfield 11, 3) := by decide +kernel
theorem dX1_kindAt_11 : decode cX1_kindAt 11 = .ok (.iload_n 1, 1) := by decide +kernel
theorem dX1_kindAt_12 : decode cX1_kindAt 12 = .ok (.iaload, 1) := by decide +kernel
theorem dX1_kindAt_13 : decode cX1_kindAt 13 = .ok (.goto 4, 3) := by decide +kernel
theorem dX1_kindAt_16 : decode cX1_kindAt 16 = .ok (.iconst (-1), 1) := by decide +kernel
theorem dX1_kindAt_17 : decode cX1_kindAt 17 = .ok (.ireturn, 1) := by decide +kernel
set_option maxRecDepth 20000 in
theorem ggX1_shapeAt_X1_isPlace : GoodIn wsX1_shapeAt wsX1_isPlace := goodIn_r _ [5] (by decide +kernel) (by decide +kernel)
set_option maxRecDepth 20000 in
theorem gX1_shapeAt_X1_isPlace : GoodIn wsX1_shapeAt (va_wsS RX1 40 yX1_isPlace wsX1_isPlace) := goodIn_app (goodIn_of _ (by decide +kernel)) ggX1_shapeAt_X1_isPlace
theorem dX1_shapeAt_0 : decode cX1_shapeAt 0 = .ok (.iload_n 1, 1) := by decide +kernel
theorem dX1_shapeAt_1 : decode cX1_shapeAt 1 = .ok (.invokestatic 40, 3) := by decide +kernel
theorem dX1_shapeAt_4 : decode cX1_shapeAt 4 = .ok (.ifCond .eq 12, 3) := by decide +kernel
theorem dX1_shapeAt_7 : decode cX1_shapeAt 7 = .ok (.aload_n 0, 1) := by decide +kernel
theorem dX1_shapeAt_8 : decode cX1_shapeAt 8 = .ok (.getfield 15, 3) := by decide +kernel
theorem dX1_shapeAt_11 : decode cX1_shapeAt 11 = .ok (.iload_n 1, 1) := by decide +kernel
theorem dX1_shapeAt_12 : decode cX1_shapeAt 12 = .ok (.iaload, 1) := by decide +kernel
theorem dX1_shapeAt_13 : decode cX1_shapeAt 13 = .ok (.goto 4, 3) := by decide +kernel
theorem dX1_shapeAt_16 : decode cX1_shapeAt 16 = .ok (.iconst (-1), 1) := by decide +kernel
theorem dX1_shapeAt_17 : decode cX1_shapeAt 17 = .ok (.ireturn, 1) := by decide +kernel
set_option maxRecDepth 20000 in
theorem ggX1_sizeAt_X1_isPlace : GoodIn wsX1_sizeAt wsX1_isPlace := goodIn_r _ [5] (by decide +kernel) (by decide +kernel)
set_option maxRecDepth 20000 in
theorem gX1_sizeAt_X1_isPlace : GoodIn wsX1_sizeAt (va_wsS RX1 40 yX1_isPlace wsX1_isPlace) := goodIn_app (goodIn_of _ (by decide +kernel)) ggX1_sizeAt_X1_isPlace
theorem dX1_sizeAt_0 : decode cX1_sizeAt 0 = .ok (.iload_n 1, 1) := by decide +kernel
theorem dX1_sizeAt_1 : decode cX1_sizeAt 1 = .ok (.invokestatic 40, 3) := by decide +kernel
theorem dX1_sizeAt_4 : decode cX1_sizeAt 4 = .ok (.ifCond .eq 12, 3) := by decide +kernel
theorem dX1_sizeAt_7 : decode cX1_sizeAt 7 = .ok (.aload_n 0, 1) := by decide +kernel
theorem dX1_sizeAt_8 : decode cX1_sizeAt 8 = .ok (.getfield 18, 3) := by decide +kernel
theorem dX1_sizeAt_11 : decode cX1_sizeAt 11 = .ok (.iload_n 1, 1) := by decide +kernel
theorem dX1_sizeAt_12 : decode cX1_sizeAt 12 = .ok (.iaload, 1) := by decide +kernel
theorem dX1_sizeAt_13 : decode cX1_sizeAt 13 = .ok (.goto 4, 3) := by decide +kernel
theorem dX1_sizeAt_16 : decode cX1_sizeAt 16 = .ok (.iconst 0, 1) := by decide +kernel
theorem dX1_sizeAt_17 : decode cX1_sizeAt 17 = .ok (.ireturn, 1) := by decide +kernel
set_option maxRecDepth 20000 in
theorem ggX1_isBare_X1_kindAt : GoodIn wsX1_isBare wsX1_kindAt := goodIn_r _ [5, 6, 7, 8, 4, 9, 10, 11, 12, 13, 14, 15, 16, 17, 18] (by decide +kernel) (by decide +kernel)
set_option maxRecDepth 20000 in
theorem gX1_isBare_X1_kindAt : GoodIn wsX1_isBare (wsV RX1 61 RX1 yX1_kindAt wsX1_kindAt) := goodIn_app (goodIn_of _ (by decide +kernel)) ggX1_isBare_X1_kindAt
theorem dX1_isBare_0 : decode cX1_isBare 0 = .ok (.aload_n 0, 1) := by decide +kernel
theorem dX1_isBare_1 : decode cX1_isBare 1 = .ok (.iload_n 1, 1) := by decide +kernel
theorem dX1_isBare_2 : decode cX1_isBare 2 = .ok (.invokevirtual 61, 3) := by decide +kernel
theorem dX1_isBare_5 : decode cX1_isBare 5 = .ok (.ifCond .ne 7, 3) := by decide +kernel
theorem dX1_isBare_8 : decode cX1_isBare 8 = .ok (.iconst 1, 1) := by decide +kernel
theorem dX1_isBare_9 : decode cX1_isBare 9 = .ok (.goto 4, 3) := by decide +kernel
theorem dX1_isBare_12 : decode cX1_isBare 12 = .ok (.iconst 0, 1) := by decide +kernel
theorem dX1_isBare_13 : decode cX1_isBare 13 = .ok (.ireturn, 1) := by decide +kernel
set_option maxRecDepth 20000 in
theorem ggX1_isPond_X1_kindAt : GoodIn wsX1_isPond wsX1_kindAt := goodIn_r _ [5, 6, 7, 8, 4, 9, 10, 11, 12, 13, 14, 15, 16, 17, 18] (by decide +kernel) (by decide +kernel)
set_option maxRecDepth 20000 in
theorem gX1_isPond_X1_kindAt : GoodIn wsX1_isPond (wsV RX1 61 RX1 yX1_kindAt wsX1_kindAt) := goodIn_app (goodIn_of _ (by decide +kernel)) ggX1_isPond_X1_kindAt
theorem dX1_isPond_0 : decode cX1_isPond 0 = .ok (.aload_n 0, 1) := by decide +kernel
theorem dX1_isPond_1 : decode cX1_isPond 1 = .ok (.iload_n 1, 1) := by decide +kernel
theorem dX1_isPond_2 : decode cX1_isPond 2 = .ok (.invokevirtual 61, 3) := by decide +kernel
theorem dX1_isPond_5 : decode cX1_isPond 5 = .ok (.iconst 2, 1) := by decide +kernel
theorem dX1_isPond_6 : decode cX1_isPond 6 = .ok (.if_icmp .ne 7, 3) := by decide +kernel
theorem dX1_isPond_9 : decode cX1_isPond 9 = .ok (.iconst 1, 1) := by decide +kernel
theorem dX1_isPond_10 : decode cX1_isPond 10 = .ok (.goto 4, 3) := by decide +kernel
theorem dX1_isPond_13 : decode cX1_isPond 13 = .ok (.iconst 0, 1) := by decide +kernel
theorem dX1_isPond_14 : decode cX1_isPond 14 = .ok (.ireturn, 1) := by decide +kernel
set_option maxRecDepth 20000 in
theorem ggX1_isWall_X1_kindAt : GoodIn wsX1_isWall wsX1_kindAt := goodIn_r _ [5, 6, 7, 8, 4, 9, 10, 11, 12, 13, 14, 15, 16, 17, 18] (by decide +kernel) (by decide +kernel)
set_option maxRecDepth 20000 in
theorem gX1_isWall_X1_kindAt : GoodIn wsX1_isWall (wsV RX1 61 RX1 yX1_kindAt wsX1_kindAt) := goodIn_app (goodIn_of _ (by decide +kernel)) ggX1_isWall_X1_kindAt
theorem dX1_isWall_0 : decode cX1_isWall 0 = .ok (.aload_n 0, 1) := by decide +kernel
theorem dX1_isWall_1 : decode cX1_isWall 1 = .ok (.iload_n 1, 1) := by decide +kernel
theorem dX1_isWall_2 : decode cX1_isWall 2 = .ok (.invokevirtual 61, 3) := by decide +kernel
theorem dX1_isWall_5 : decode cX1_isWall 5 = .ok (.iconst 3, 1) := by decide +kernel
theorem dX1_isWall_6 : decode cX1_isWall 6 = .ok (.if_icmp .ne 7, 3) := by decide +kernel
theorem dX1_isWall_9 : decode cX1_isWall 9 = .ok (.iconst 1, 1) := by decide +kernel
theorem dX1_isWall_10 : decode cX1_isWall 10 = .ok (.goto 4, 3) := by decide +kernel
theorem dX1_isWall_13 : decode cX1_isWall 13 = .ok (.iconst 0, 1) := by decide +kernel
theorem dX1_isWall_14 : decode cX1_isWall 14 = .ok (.ireturn, 1) := by decide +kernel
set_option maxRecDepth 20000 in
theorem ggX1_isGreatRock_X1_kindAt : GoodIn wsX1_isGreatRock wsX1_kindAt := goodIn_r _ [5, 6, 7, 8, 4, 9, 15, 16, 17, 18, 19, 20, 21, 22, 23] (by decide +kernel) (by decide +kernel)
set_option maxRecDepth 20000 in
theorem gX1_isGreatRock_X1_kindAt : GoodIn wsX1_isGreatRock (wsV RX1 61 RX1 yX1_kindAt wsX1_kindAt) := goodIn_app (goodIn_of _ (by decide +kernel)) ggX1_isGreatRock_X1_kindAt
set_option maxRecDepth 20000 in
theorem ggX1_isGreatRock_X1_sizeAt : GoodIn wsX1_isGreatRock wsX1_sizeAt := goodIn_r _ [13, 14, 7, 8, 4, 9, 15, 16, 17, 18, 19, 20, 21, 22, 23] (by decide +kernel) (by decide +kernel)
set_option maxRecDepth 20000 in
theorem gX1_isGreatRock_X1_sizeAt : GoodIn wsX1_isGreatRock (wsV RX1 65 RX1 yX1_sizeAt wsX1_sizeAt) := goodIn_app (goodIn_of _ (by decide +kernel)) ggX1_isGreatRock_X1_sizeAt
theorem dX1_isGreatRock_0 : decode cX1_isGreatRock 0 = .ok (.aload_n 0, 1) := by decide +kernel
theorem dX1_isGreatRock_1 : decode cX1_isGreatRock 1 = .ok (.iload_n 1, 1) := by decide +kernel
theorem dX1_isGreatRock_2 : decode cX1_isGreatRock 2 = .ok (.invokevirtual 61, 3) := by decide +kernel
theorem dX1_isGreatRock_5 : decode cX1_isGreatRock 5 = .ok (.iconst 1, 1) := by decide +kernel
theorem dX1_isGreatRock_6 : decode cX1_isGreatRock 6 = .ok (.if_icmp .ne 17, 3) := by decide +kernel
theorem dX1_isGreatRock_9 : decode cX1_isGreatRock 9 = .ok (.aload_n 0, 1) := by decide +kernel
theorem dX1_isGreatRock_10 : decode cX1_isGreatRock 10 = .ok (.iload_n 1, 1) := by decide +kernel
theorem dX1_isGreatRock_11 : decode cX1_isGreatRock 11 = .ok (.invokevirtual 65, 3) := by decide +kernel
theorem dX1_isGreatRock_14 : decode cX1_isGreatRock 14 = .ok (.bipush 7, 2) := by decide +kernel
theorem dX1_isGreatRock_16 : decode cX1_isGreatRock 16 = .ok (.if_icmp .lt 7, 3) := by decide +kernel
theorem dX1_isGreatRock_19 : decode cX1_isGreatRock 19 = .ok (.iconst 1, 1) := by decide +kernel
theorem dX1_isGreatRock_20 : decode cX1_isGreatRock 20 = .ok (.goto 4, 3) := by decide +kernel
theorem dX1_isGreatRock_23 : decode cX1_isGreatRock 23 = .ok (.iconst 0, 1) := by decide +kernel
theorem dX1_isGreatRock_24 : decode cX1_isGreatRock 24 = .ok (.ireturn, 1) := by decide +kernel
set_option maxRecDepth 20000 in
theorem ggX1_hasCarps_X1_isPlace : GoodIn wsX1_hasCarps wsX1_isPlace := goodIn_r _ [5] (by decide +kernel) (by decide +kernel)
set_option maxRecDepth 20000 in
theorem gX1_hasCarps_X1_isPlace : GoodIn wsX1_hasCarps (va_wsS RX1 40 yX1_isPlace wsX1_isPlace) := goodIn_app (goodIn_of _ (by decide +kernel)) ggX1_hasCarps_X1_isPlace
theorem dX1_hasCarps_0 : decode cX1_hasCarps 0 = .ok (.iload_n 1, 1) := by decide +kernel
theorem dX1_hasCarps_1 : decode cX1_hasCarps 1 = .ok (.invokestatic 40, 3) := by decide +kernel
theorem dX1_hasCarps_4 : decode cX1_hasCarps 4 = .ok (.ifCond .eq 16, 3) := by decide +kernel
theorem dX1_hasCarps_7 : decode cX1_hasCarps 7 = .ok (.aload_n 0, 1) := by decide +kernel
theorem dX1_hasCarps_8 : decode cX1_hasCarps 8 = .ok (.getfield 21, 3) := by decide +kernel
theorem dX1_hasCarps_11 : decode cX1_hasCarps 11 = .ok (.iload_n 1, 1) := by decide +kernel
theorem dX1_hasCarps_12 : decode cX1_hasCarps 12 = .ok (.iaload, 1) := by decide +kernel
theorem dX1_hasCarps_13 : decode cX1_hasCarps 13 = .ok (.ifCond .le 7, 3) := by decide +kernel
theorem dX1_hasCarps_16 : decode cX1_hasCarps 16 = .ok (.iconst 1, 1) := by decide +kernel
theorem dX1_hasCarps_17 : decode cX1_hasCarps 17 = .ok (.goto 4, 3) := by decide +kernel
theorem dX1_hasCarps_20 : decode cX1_hasCarps 20 = .ok (.iconst 0, 1) := by decide +kernel
theorem dX1_hasCarps_21 : decode cX1_hasCarps 21 = .ok (.ireturn, 1) := by decide +kernel
theorem dX1_manyOf_0 : decode cX1_manyOf 0 = .ok (.iconst 0, 1) := by decide +kernel
theorem dX1_manyOf_1 : decode cX1_manyOf 1 = .ok (.istore_n 2, 1) := by decide +kernel
theorem dX1_manyOf_2 : decode cX1_manyOf 2 = .ok (.iconst 0, 1) := by decide +kernel
theorem dX1_manyOf_3 : decode cX1_manyOf 3 = .ok (.istore_n 3, 1) := by decide +kernel
theorem dX1_manyOf_4 : decode cX1_manyOf 4 = .ok (.iload_n 3, 1) := by decide +kernel
theorem dX1_manyOf_5 : decode cX1_manyOf 5 = .ok (.bipush 70, 2) := by decide +kernel
theorem dX1_manyOf_7 : decode cX1_manyOf 7 = .ok (.if_icmp .ge 22, 3) := by decide +kernel
theorem dX1_manyOf_10 : decode cX1_manyOf 10 = .ok (.aload_n 0, 1) := by decide +kernel
theorem dX1_manyOf_11 : decode cX1_manyOf 11 = .ok (.getfield 11, 3) := by decide +kernel
theorem dX1_manyOf_14 : decode cX1_manyOf 14 = .ok (.iload_n 3, 1) := by decide +kernel
theorem dX1_manyOf_15 : decode cX1_manyOf 15 = .ok (.iaload, 1) := by decide +kernel
theorem dX1_manyOf_16 : decode cX1_manyOf 16 = .ok (.iload_n 1, 1) := by decide +kernel
theorem dX1_manyOf_17 : decode cX1_manyOf 17 = .ok (.if_icmp .ne 6, 3) := by decide +kernel
theorem dX1_manyOf_20 : decode cX1_manyOf 20 = .ok (.iinc 2 1, 3) := by decide +kernel
theorem dX1_manyOf_23 : decode cX1_manyOf 23 = .ok (.iinc 3 1, 3) := by decide +kernel
theorem dX1_manyOf_26 : decode cX1_manyOf 26 = .ok (.goto (-22), 3) := by decide +kernel
theorem dX1_manyOf_29 : decode cX1_manyOf 29 = .ok (.iload_n 2, 1) := by decide +kernel
theorem dX1_manyOf_30 : decode cX1_manyOf 30 = .ok (.ireturn, 1) := by decide +kernel
set_option maxRecDepth 20000 in
theorem ggX1_setRock_X1_setCell : GoodIn wsX1_setRock wsX1_setCell := goodIn_r _ [5, 6, 7, 8, 9, 10, 4, 11, 12, 13, 14, 15, 16, 17, 18, 19, 20] (by decide +kernel) (by decide +kernel)
set_option maxRecDepth 20000 in
theorem gX1_setRock_X1_setCell : GoodIn wsX1_setRock (wsV RX1 68 RX1 yX1_setCell wsX1_setCell) := goodIn_app (goodIn_of _ (by decide +kernel)) ggX1_setRock_X1_setCell
theorem dX1_setRock_0 : decode cX1_setRock 0 = .ok (.aload_n 0, 1) := by decide +kernel
theorem dX1_setRock_1 : decode cX1_setRock 1 = .ok (.iload_n 1, 1) := by decide +kernel
theorem dX1_setRock_2 : decode cX1_setRock 2 = .ok (.iconst 1, 1) := by decide +kernel
theorem dX1_setRock_3 : decode cX1_setRock 3 = .ok (.iload_n 2, 1) := by decide +kernel
theorem dX1_setRock_4 : decode cX1_setRock 4 = .ok (.iload_n 3, 1) := by decide +kernel
theorem dX1_setRock_5 : decode cX1_setRock 5 = .ok (.invokevirtual 68, 3) := by decide +kernel
theorem dX1_setRock_8 : decode cX1_setRock 8 = .ok (.return_, 1) := by decide +kernel
set_option maxRecDepth 20000 in
theorem ggX1_takeRock_X1_setCell : GoodIn wsX1_takeRock wsX1_setCell := goodIn_r _ [5, 6, 7, 8, 9, 10, 4, 11, 12, 13, 14, 15, 16, 17, 18, 19, 20] (by decide +kernel) (by decide +kernel)
set_option maxRecDepth 20000 in
theorem gX1_takeRock_X1_setCell : GoodIn wsX1_takeRock (wsV RX1 68 RX1 yX1_setCell wsX1_setCell) := goodIn_app (goodIn_of _ (by decide +kernel)) ggX1_takeRock_X1_setCell
theorem dX1_takeRock_0 : decode cX1_takeRock 0 = .ok (.aload_n 0, 1) := by decide +kernel
theorem dX1_takeRock_1 : decode cX1_takeRock 1 = .ok (.iload_n 1, 1) := by decide +kernel
theorem dX1_takeRock_2 : decode cX1_takeRock 2 = .ok (.iconst 0, 1) := by decide +kernel
theorem dX1_takeRock_3 : decode cX1_takeRock 3 = .ok (.iconst (-1), 1) := by decide +kernel
theorem dX1_takeRock_4 : decode cX1_takeRock 4 = .ok (.iconst 0, 1) := by decide +kernel
theorem dX1_takeRock_5 : decode cX1_takeRock 5 = .ok (.invokevirtual 68, 3) := by decide +kernel
theorem dX1_takeRock_8 : decode cX1_takeRock 8 = .ok (.return_, 1) := by decide +kernel
set_option maxRecDepth 20000 in
theorem ggX1_setPond_X1_setCell : GoodIn wsX1_setPond wsX1_setCell := goodIn_r _ [5, 6, 7, 8, 9, 10, 4, 11, 49, 50, 51, 52, 53, 54, 55, 56, 57] (by decide +kernel) (by decide +kernel)
set_option maxRecDepth 20000 in
theorem gX1_setPond_X1_setCell : GoodIn wsX1_setPond (wsV RX1 68 RX1 yX1_setCell wsX1_setCell) := goodIn_app (goodIn_of _ (by decide +kernel)) ggX1_setPond_X1_setCell
set_option maxRecDepth 20000 in
theorem ggX1_setPond_X1_surveyPonds : GoodIn wsX1_setPond wsX1_surveyPonds := goodIn_r _ [15, 16, 17, 18, 19, 20, 4, 21, 6, 9, 10, 11, 22, 23, 24, 25, 26, 27, 28, 29, 30, 31, 32, 33, 34, 35, 36, 37, 38, 39, 40, 41, 42, 43, 44, 45, 46, 47, 48, 49, 50, 51, 52, 53, 54, 55, 56, 57] (by decide +kernel) (by decide +kernel)
set_option maxRecDepth 20000 in
theorem gX1_setPond_X1_surveyPonds : GoodIn wsX1_setPond (wsV RX1 72 RX1 yX1_surveyPonds wsX1_surveyPonds) := goodIn_app (goodIn_of _ (by decide +kernel)) ggX1_setPond_X1_surveyPonds
theorem dX1_setPond_0 : decode cX1_setPond 0 = .ok (.aload_n 0, 1) := by decide +kernel
theorem dX1_setPond_1 : decode cX1_setPond 1 = .ok (.iload_n 1, 1) := by decide +kernel
theorem dX1_setPond_2 : decode cX1_setPond 2 = .ok (.iconst 2, 1) := by decide +kernel
theorem dX1_setPond_3 : decode cX1_setPond 3 = .ok (.iconst (-1), 1) := by decide +kernel
theorem dX1_setPond_4 : decode cX1_setPond 4 = .ok (.iconst 0, 1) := by decide +kernel
theorem dX1_setPond_5 : decode cX1_setPond 5 = .ok (.invokevirtual 68, 3) := by decide +kernel
theorem dX1_setPond_8 : decode cX1_setPond 8 = .ok (.aload_n 0, 1) := by decide +kernel
theorem dX1_setPond_9 : decode cX1_setPond 9 = .ok (.invokevirtual 72, 3) := by decide +kernel
theorem dX1_setPond_12 : decode cX1_setPond 12 = .ok (.return_, 1) := by decide +kernel
set_option maxRecDepth 20000 in
theorem ggX1_setWall_X1_setCell : GoodIn wsX1_setWall wsX1_setCell := goodIn_r _ [5, 6, 7, 8, 9, 10, 4, 11, 12, 13, 14, 15, 16, 17, 18, 19, 20] (by decide +kernel) (by decide +kernel)
set_option maxRecDepth 20000 in
theorem gX1_setWall_X1_setCell : GoodIn wsX1_setWall (wsV RX1 68 RX1 yX1_setCell wsX1_setCell) := goodIn_app (goodIn_of _ (by decide +kernel)) ggX1_setWall_X1_setCell
theorem dX1_setWall_0 : decode cX1_setWall 0 = .ok (.aload_n 0, 1) := by decide +kernel
theorem dX1_setWall_1 : decode cX1_setWall 1 = .ok (.iload_n 1, 1) := by decide +kernel
theorem dX1_setWall_2 : decode cX1_setWall 2 = .ok (.iconst 3, 1) := by decide +kernel
theorem dX1_setWall_3 : decode cX1_setWall 3 = .ok (.iconst (-1), 1) := by decide +kernel
theorem dX1_setWall_4 : decode cX1_setWall 4 = .ok (.iconst 0, 1) := by decide +kernel
theorem dX1_setWall_5 : decode cX1_setWall 5 = .ok (.invokevirtual 68, 3) := by decide +kernel
theorem dX1_setWall_8 : decode cX1_setWall 8 = .ok (.return_, 1) := by decide +kernel
set_option maxRecDepth 20000 in
theorem ggX1_setBare_X1_isPond : GoodIn wsX1_setBare wsX1_isPond := goodIn_r _ [5, 6, 7, 8, 4, 9, 10, 11, 12, 13, 57, 58, 59, 60, 61, 62, 63, 64, 65] (by decide +kernel) (by decide +kernel)
set_option maxRecDepth 20000 in
theorem gX1_setBare_X1_isPond : GoodIn wsX1_setBare (wsV RX1 75 RX1 yX1_isPond wsX1_isPond) := goodIn_app (goodIn_of _ (by decide +kernel)) ggX1_setBare_X1_isPond
set_option maxRecDepth 20000 in
theorem ggX1_setBare_X1_setCell : GoodIn wsX1_setBare wsX1_setCell := goodIn_r _ [17, 10, 18, 19, 11, 12, 4, 13, 57, 58, 59, 60, 61, 62, 63, 64, 65] (by decide +kernel) (by decide +kernel)
set_option maxRecDepth 20000 in
theorem gX1_setBare_X1_setCell : GoodIn wsX1_setBare (wsV RX1 68 RX1 yX1_setCell wsX1_setCell) := goodIn_app (goodIn_of _ (by decide +kernel)) ggX1_setBare_X1_setCell
set_option maxRecDepth 20000 in
theorem ggX1_setBare_X1_surveyPonds : GoodIn wsX1_setBare wsX1_surveyPonds := goodIn_r _ [23, 24, 25, 26, 27, 28, 4, 29, 10, 11, 12, 13, 30, 31, 32, 33, 34, 35, 36, 37, 38, 39, 40, 41, 42, 43, 44, 45, 46, 47, 48, 49, 50, 51, 52, 53, 54, 55, 56, 57, 58, 59, 60, 61, 62, 63, 64, 65] (by decide +kernel) (by decide +kernel)
set_option maxRecDepth 20000 in
theorem gX1_setBare_X1_surveyPonds : GoodIn wsX1_setBare (wsV RX1 72 RX1 yX1_surveyPonds wsX1_surveyPonds) := goodIn_app (goodIn_of _ (by decide +kernel)) ggX1_setBare_X1_surveyPonds
theorem dX1_setBare_0 : decode cX1_setBare 0 = .ok (.aload_n 0, 1) := by decide +kernel
theorem dX1_setBare_1 : decode cX1_setBare 1 = .ok (.iload_n 1, 1) := by decide +kernel
theorem dX1_setBare_2 : decode cX1_setBare 2 = .ok (.invokevirtual 75, 3) := by decide +kernel
theorem dX1_setBare_5 : decode cX1_setBare 5 = .ok (.istore_n 2, 1) := by decide +kernel
theorem dX1_setBare_6 : decode cX1_setBare 6 = .ok (.aload_n 0, 1) := by decide +kernel
theorem dX1_setBare_7 : decode cX1_setBare 7 = .ok (.iload_n 1, 1) := by decide +kernel
theorem dX1_setBare_8 : decode cX1_setBare 8 = .ok (.iconst 0, 1) := by decide +kernel
theorem dX1_setBare_9 : decode cX1_setBare 9 = .ok (.iconst (-1), 1) := by decide +kernel
theorem dX1_setBare_10 : decode cX1_setBare 10 = .ok (.iconst 0, 1) := by decide +kernel
theorem dX1_setBare_11 : decode cX1_setBare 11 = .ok (.invokevirtual 68, 3) := by decide +kernel
theorem dX1_setBare_14 : decode cX1_setBare 14 = .ok (.iload_n 2, 1) := by decide +kernel
theorem dX1_setBare_15 : decode cX1_setBare 15 = .ok (.ifCond .eq 7, 3) := by decide +kernel
theorem dX1_setBare_18 : decode cX1_setBare 18 = .ok (.aload_n 0, 1) := by decide +kernel
theorem dX1_setBare_19 : decode cX1_setBare 19 = .ok (.invokevirtual 72, 3) := by decide +kernel
theorem dX1_setBare_22 : decode cX1_setBare 22 = .ok (.return_, 1) := by decide +kernel
set_option maxRecDepth 20000 in
theorem ggX1_setCell_X1_isPlace : GoodIn wsX1_setCell wsX1_isPlace := goodIn_r _ [7] (by decide +kernel) (by decide +kernel)
set_option maxRecDepth 20000 in
theorem gX1_setCell_X1_isPlace : GoodIn wsX1_setCell (va_wsS RX1 40 yX1_isPlace wsX1_isPlace) := goodIn_app (goodIn_of _ (by decide +kernel)) ggX1_setCell_X1_isPlace
theorem dX1_setCell_0 : decode cX1_setCell 0 = .ok (.iload_n 1, 1) := by decide +kernel
theorem dX1_setCell_1 : decode cX1_setCell 1 = .ok (.invokestatic 40, 3) := by decide +kernel
theorem dX1_setCell_4 : decode cX1_setCell 4 = .ok (.ifCond .eq 25, 3) := by decide +kernel
theorem dX1_setCell_7 : decode cX1_setCell 7 = .ok (.aload_n 0, 1) := by decide +kernel
theorem dX1_setCell_8 : decode cX1_setCell 8 = .ok (.getfield 11, 3) := by decide +kernel
theorem dX1_setCell_11 : decode cX1_setCell 11 = .ok (.iload_n 1, 1) := by decide +kernel
theorem dX1_setCell_12 : decode cX1_setCell 12 = .ok (.iload_n 2, 1) := by decide +kernel
theorem dX1_setCell_13 : decode cX1_setCell 13 = .ok (.iastore, 1) := by decide +kernel
theorem dX1_setCell_14 : decode cX1_setCell 14 = .ok (.aload_n 0, 1) := by decide +kernel
theorem dX1_setCell_15 : decode cX1_setCell 15 = .ok (.getfield 15, 3) := by decide +kernel
theorem dX1_setCell_18 : decode cX1_setCell 18 = .ok (.iload_n 1, 1) := by decide +kernel
theorem dX1_setCell_19 : decode cX1_setCell 19 = .ok (.iload_n 3, 1) := by decide +kernel
theorem dX1_setCell_20 : decode cX1_setCell 20 = .ok (.iastore, 1) := by decide +kernel
theorem dX1_setCell_21 : decode cX1_setCell 21 = .ok (.aload_n 0, 1) := by decide +kernel
theorem dX1_setCell_22 : decode cX1_setCell 22 = .ok (.getfield 18, 3) := by decide +kernel
theorem dX1_setCell_25 : decode cX1_setCell 25 = .ok (.iload_n 1, 1) := by decide +kernel
theorem dX1_setCell_26 : decode cX1_setCell 26 = .ok (.iload 4, 2) := by decide +kernel
theorem dX1_setCell_28 : decode cX1_setCell 28 = .ok (.iastore, 1) := by decide +kernel
theorem dX1_setCell_29 : decode cX1_setCell 29 = .ok (.return_, 1) := by decide +kernel
set_option maxRecDepth 20000 in
theorem ggX1_changeCarps_X1_pondAt : GoodIn wsX1_changeCarps wsX1_pondAt := goodIn_r _ [7, 8, 9, 10, 6, 11, 12, 13, 14, 15, 16, 17, 18, 19, 20] (by decide +kernel) (by decide +kernel)
set_option maxRecDepth 20000 in
theorem gX1_changeCarps_X1_pondAt : GoodIn wsX1_changeCarps (wsV RX1 78 RX1 yX1_pondAt wsX1_pondAt) := goodIn_app (goodIn_of _ (by decide +kernel)) ggX1_changeCarps_X1_pondAt
theorem dX1_changeCarps_0 : decode cX1_changeCarps 0 = .ok (.aload_n 0, 1) := by decide +kernel
theorem dX1_changeCarps_1 : decode cX1_changeCarps 1 = .ok (.iload_n 1, 1) := by decide +kernel
theorem dX1_changeCarps_2 : decode cX1_changeCarps 2 = .ok (.invokevirtual 78, 3) := by decide +kernel
theorem dX1_changeCarps_5 : decode cX1_changeCarps 5 = .ok (.istore_n 3, 1) := by decide +kernel
theorem dX1_changeCarps_6 : decode cX1_changeCarps 6 = .ok (.iload_n 3, 1) := by decide +kernel
theorem dX1_changeCarps_7 : decode cX1_changeCarps 7 = .ok (.iconst (-1), 1) := by decide +kernel
theorem dX1_changeCarps_8 : decode cX1_changeCarps 8 = .ok (.if_icmp .eq 23, 3) := by decide +kernel
theorem dX1_changeCarps_11 : decode cX1_changeCarps 11 = .ok (.aload_n 0, 1) := by decide +kernel
theorem dX1_changeCarps_12 : decode cX1_changeCarps 12 = .ok (.getfield 21, 3) := by decide +kernel
theorem dX1_changeCarps_15 : decode cX1_changeCarps 15 = .ok (.iload_n 1, 1) := by decide +kernel
theorem dX1_changeCarps_16 : decode cX1_changeCarps 16 = .ok (.dup2, 1) := by decide +kernel
theorem dX1_changeCarps_17 : decode cX1_changeCarps 17 = .ok (.iaload, 1) := by decide +kernel
theorem dX1_changeCarps_18 : decode cX1_changeCarps 18 = .ok (.iload_n 2, 1) := by decide +kernel
theorem dX1_changeCarps_19 : decode cX1_changeCarps 19 = .ok (.iadd, 1) := by decide +kernel
theorem dX1_changeCarps_20 : decode cX1_changeCarps 20 = .ok (.iastore, 1) := by decide +kernel
theorem dX1_changeCarps_21 : decode cX1_changeCarps 21 = .ok (.aload_n 0, 1) := by decide +kernel
theorem dX1_changeCarps_22 : decode cX1_changeCarps 22 = .ok (.getfield 30, 3) := by decide +kernel
theorem dX1_changeCarps_25 : decode cX1_changeCarps 25 = .ok (.iload_n 3, 1) := by decide +kernel
theorem dX1_changeCarps_26 : decode cX1_changeCarps 26 = .ok (.dup2, 1) := by decide +kernel
theorem dX1_changeCarps_27 : decode cX1_changeCarps 27 = .ok (.iaload, 1) := by decide +kernel
theorem dX1_changeCarps_28 : decode cX1_changeCarps 28 = .ok (.iload_n 2, 1) := by decide +kernel
theorem dX1_changeCarps_29 : decode cX1_changeCarps 29 = .ok (.iadd, 1) := by decide +kernel
theorem dX1_changeCarps_30 : decode cX1_changeCarps 30 = .ok (.iastore, 1) := by decide +kernel
theorem dX1_changeCarps_31 : decode cX1_changeCarps 31 = .ok (.return_, 1) := by decide +kernel
set_option maxRecDepth 20000 in
theorem ggX1_cellsOfPondAt_X1_pondAt : GoodIn wsX1_cellsOfPondAt wsX1_pondAt := goodIn_r _ [6, 7, 8, 9, 5, 10, 11, 12, 13, 14, 15, 16, 17, 18, 19] (by decide +kernel) (by decide +kernel)
set_option maxRecDepth 20000 in
theorem gX1_cellsOfPondAt_X1_pondAt : GoodIn wsX1_cellsOfPondAt (wsV RX1 78 RX1 yX1_pondAt wsX1_pondAt) := goodIn_app (goodIn_of _ (by decide +kernel)) ggX1_cellsOfPondAt_X1_pondAt
theorem dX1_cellsOfPondAt_0 : decode cX1_cellsOfPondAt 0 = .ok (.aload_n 0, 1) := by decide +kernel
theorem dX1_cellsOfPondAt_1 : decode cX1_cellsOfPondAt 1 = .ok (.iload_n 1, 1) := by decide +kernel
theorem dX1_cellsOfPondAt_2 : decode cX1_cellsOfPondAt 2 = .ok (.invokevirtual 78, 3) := by decide +kernel
theorem dX1_cellsOfPondAt_5 : decode cX1_cellsOfPondAt 5 = .ok (.istore_n 2, 1) := by decide +kernel
theorem dX1_cellsOfPondAt_6 : decode cX1_cellsOfPondAt 6 = .ok (.iload_n 2, 1) := by decide +kernel
theorem dX1_cellsOfPondAt_7 : decode cX1_cellsOfPondAt 7 = .ok (.iconst (-1), 1) := by decide +kernel
theorem dX1_cellsOfPondAt_8 : decode cX1_cellsOfPondAt 8 = .ok (.if_icmp .ne 7, 3) := by decide +kernel
theorem dX1_cellsOfPondAt_11 : decode cX1_cellsOfPondAt 11 = .ok (.iconst 0, 1) := by decide +kernel
theorem dX1_cellsOfPondAt_12 : decode cX1_cellsOfPondAt 12 = .ok (.goto 9, 3) := by decide +kernel
theorem dX1_cellsOfPondAt_15 : decode cX1_cellsOfPondAt 15 = .ok (.aload_n 0, 1) := by decide +kernel
theorem dX1_cellsOfPondAt_16 : decode cX1_cellsOfPondAt 16 = .ok (.getfield 27, 3) := by decide +kernel
theorem dX1_cellsOfPondAt_19 : decode cX1_cellsOfPondAt 19 = .ok (.iload_n 2, 1) := by decide +kernel
theorem dX1_cellsOfPondAt_20 : decode cX1_cellsOfPondAt 20 = .ok (.iaload, 1) := by decide +kernel
theorem dX1_cellsOfPondAt_21 : decode cX1_cellsOfPondAt 21 = .ok (.ireturn, 1) := by decide +kernel
set_option maxRecDepth 20000 in
theorem ggX1_carpsOfPondAt_X1_pondAt : GoodIn wsX1_carpsOfPondAt wsX1_pondAt := goodIn_r _ [6, 7, 8, 9, 5, 10, 11, 12, 13, 14, 15, 16, 17, 18, 19] (by decide +kernel) (by decide +kernel)
set_option maxRecDepth 20000 in
theorem gX1_carpsOfPondAt_X1_pondAt : GoodIn wsX1_carpsOfPondAt (wsV RX1 78 RX1 yX1_pondAt wsX1_pondAt) := goodIn_app (goodIn_of _ (by decide +kernel)) ggX1_carpsOfPondAt_X1_pondAt
theorem dX1_carpsOfPondAt_0 : decode cX1_carpsOfPondAt 0 = .ok (.aload_n 0, 1) := by decide +kernel
theorem dX1_carpsOfPondAt_1 : decode cX1_carpsOfPondAt 1 = .ok (.iload_n 1, 1) := by decide +kernel
theorem dX1_carpsOfPondAt_2 : decode cX1_carpsOfPondAt 2 = .ok (.invokevirtual 78, 3) := by decide +kernel
theorem dX1_carpsOfPondAt_5 : decode cX1_carpsOfPondAt 5 = .ok (.istore_n 2, 1) := by decide +kernel
theorem dX1_carpsOfPondAt_6 : decode cX1_carpsOfPondAt 6 = .ok (.iload_n 2, 1) := by decide +kernel
theorem dX1_carpsOfPondAt_7 : decode cX1_carpsOfPondAt 7 = .ok (.iconst (-1), 1) := by decide +kernel
theorem dX1_carpsOfPondAt_8 : decode cX1_carpsOfPondAt 8 = .ok (.if_icmp .ne 7, 3) := by decide +kernel
theorem dX1_carpsOfPondAt_11 : decode cX1_carpsOfPondAt 11 = .ok (.iconst 0, 1) := by decide +kernel
theorem dX1_carpsOfPondAt_12 : decode cX1_carpsOfPondAt 12 = .ok (.goto 9, 3) := by decide +kernel
theorem dX1_carpsOfPondAt_15 : decode cX1_carpsOfPondAt 15 = .ok (.aload_n 0, 1) := by decide +kernel
theorem dX1_carpsOfPondAt_16 : decode cX1_carpsOfPondAt 16 = .ok (.getfield 30, 3) := by decide +kernel
theorem dX1_carpsOfPondAt_19 : decode cX1_carpsOfPondAt 19 = .ok (.iload_n 2, 1) := by decide +kernel
theorem dX1_carpsOfPondAt_20 : decode cX1_carpsOfPondAt 20 = .ok (.iaload, 1) := by decide +kernel
theorem dX1_carpsOfPondAt_21 : decode cX1_carpsOfPondAt 21 = .ok (.ireturn, 1) := by decide +kernel
set_option maxRecDepth 20000 in
theorem ggX1_isTooFull_X1_carpsOfPondAt : GoodIn wsX1_isTooFull wsX1_carpsOfPondAt := goodIn_r _ [5, 6, 7, 8, 9, 4, 10, 11, 12, 13, 14, 20, 21, 22, 23, 24, 25, 26, 27, 28] (by decide +kernel) (by decide +kernel)
set_option maxRecDepth 20000 in
theorem gX1_isTooFull_X1_carpsOfPondAt : GoodIn wsX1_isTooFull (wsV RX1 81 RX1 yX1_carpsOfPondAt wsX1_carpsOfPondAt) := goodIn_app (goodIn_of _ (by decide +kernel)) ggX1_isTooFull_X1_carpsOfPondAt
set_option maxRecDepth 20000 in
theorem ggX1_isTooFull_X1_cellsOfPondAt : GoodIn wsX1_isTooFull wsX1_cellsOfPondAt := goodIn_r _ [18, 19, 7, 8, 9, 4, 10, 11, 12, 13, 14, 20, 21, 22, 23, 24, 25, 26, 27, 28] (by decide +kernel) (by decide +kernel)
set_option maxRecDepth 20000 in
theorem gX1_isTooFull_X1_cellsOfPondAt : GoodIn wsX1_isTooFull (wsV RX1 84 RX1 yX1_cellsOfPondAt wsX1_cellsOfPondAt) := goodIn_app (goodIn_of _ (by decide +kernel)) ggX1_isTooFull_X1_cellsOfPondAt
theorem dX1_isTooFull_0 : decode cX1_isTooFull 0 = .ok (.aload_n 0, 1) := by decide +kernel
theorem dX1_isTooFull_1 : decode cX1_isTooFull 1 = .ok (.iload_n 1, 1) := by decide +kernel
theorem dX1_isTooFull_2 : decode cX1_isTooFull 2 = .ok (.invokevirtual 81, 3) := by decide +kernel
theorem dX1_isTooFull_5 : decode cX1_isTooFull 5 = .ok (.iconst 2, 1) := by decide +kernel
theorem dX1_isTooFull_6 : decode cX1_isTooFull 6 = .ok (.aload_n 0, 1) := by decide +kernel
theorem dX1_isTooFull_7 : decode cX1_isTooFull 7 = .ok (.iload_n 1, 1) := by decide +kernel
theorem dX1_isTooFull_8 : decode cX1_isTooFull 8 = .ok (.invokevirtual 84, 3) := by decide +kernel
theorem dX1_isTooFull_11 : decode cX1_isTooFull 11 = .ok (.imul, 1) := by decide +kernel
theorem dX1_isTooFull_12 : decode cX1_isTooFull 12 = .ok (.if_icmp .le 7, 3) := by decide +kernel
theorem dX1_isTooFull_15 : decode cX1_isTooFull 15 = .ok (.iconst 1, 1) := by decide +kernel
theorem dX1_isTooFull_16 : decode cX1_isTooFull 16 = .ok (.goto 4, 3) := by decide +kernel
theorem dX1_isTooFull_19 : decode cX1_isTooFull 19 = .ok (.iconst 0, 1) := by decide +kernel
theorem dX1_isTooFull_20 : decode cX1_isTooFull 20 = .ok (.ireturn, 1) := by decide +kernel
set_option maxRecDepth 20000 in
theorem ggX1_pondAt_X1_isPlace : GoodIn wsX1_pondAt wsX1_isPlace := goodIn_r _ [5] (by decide +kernel) (by decide +kernel)
set_option maxRecDepth 20000 in
theorem gX1_pondAt_X1_isPlace : GoodIn wsX1_pondAt (va_wsS RX1 40 yX1_isPlace wsX1_isPlace) := goodIn_app (goodIn_of _ (by decide +kernel)) ggX1_pondAt_X1_isPlace
theorem dX1_pondAt_0 : decode cX1_pondAt 0 = .ok (.iload_n 1, 1) := by decide +kernel
theorem dX1_pondAt_1 : decode cX1_pondAt 1 = .ok (.invokestatic 40, 3) := by decide +kernel
theorem dX1_pondAt_4 : decode cX1_pondAt 4 = .ok (.ifCond .eq 12, 3) := by decide +kernel
theorem dX1_pondAt_7 : decode cX1_pondAt 7 = .ok (.aload_n 0, 1) := by decide +kernel
theorem dX1_pondAt_8 : decode cX1_pondAt 8 = .ok (.getfield 24, 3) := by decide +kernel
theorem dX1_pondAt_11 : decode cX1_pondAt 11 = .ok (.iload_n 1, 1) := by decide +kernel
theorem dX1_pondAt_12 : decode cX1_pondAt 12 = .ok (.iaload, 1) := by decide +kernel
theorem dX1_pondAt_13 : decode cX1_pondAt 13 = .ok (.goto 4, 3) := by decide +kernel
theorem dX1_pondAt_16 : decode cX1_pondAt 16 = .ok (.iconst (-1), 1) := by decide +kernel
theorem dX1_pondAt_17 : decode cX1_pondAt 17 = .ok (.istore_n 2, 1) := by decide +kernel
theorem dX1_pondAt_18 : decode cX1_pondAt 18 = .ok (.iload_n 2, 1) := by decide +kernel
theorem dX1_pondAt_19 : decode cX1_pondAt 19 = .ok (.ifCond .lt 13, 3) := by decide +kernel
theorem dX1_pondAt_22 : decode cX1_pondAt 22 = .ok (.iload_n 2, 1) := by decide +kernel
theorem dX1_pondAt_23 : decode cX1_pondAt 23 = .ok (.bipush 70, 2) := by decide +kernel
theorem dX1_pondAt_25 : decode cX1_pondAt 25 = .ok (.if_icmp .ge 7, 3) := by decide +kernel
theorem dX1_pondAt_28 : decode cX1_pondAt 28 = .ok (.iload_n 2, 1) := by decide +kernel
theorem dX1_pondAt_29 : decode cX1_pondAt 29 = .ok (.goto 4, 3) := by decide +kernel
theorem dX1_pondAt_32 : decode cX1_pondAt 32 = .ok (.iconst (-1), 1) := by decide +kernel
theorem dX1_pondAt_33 : decode cX1_pondAt 33 = .ok (.ireturn, 1) := by decide +kernel
set_option maxRecDepth 20000 in
theorem ggX1_surveyPonds_X1_isUnknownPond : GoodIn wsX1_surveyPonds wsX1_isUnknownPond := goodIn_r _ [7, 8, 1, 9, 10, 6, 11, 39, 40, 41, 42, 43, 44, 45, 46, 47] (by decide +kernel) (by decide +kernel)
set_option maxRecDepth 20000 in
theorem gX1_surveyPonds_X1_isUnknownPond : GoodIn wsX1_surveyPonds (wsV RX1 87 RX1 yX1_isUnknownPond wsX1_isUnknownPond) := goodIn_app (goodIn_of _ (by decide +kernel)) ggX1_surveyPonds_X1_isUnknownPond
set_option maxRecDepth 20000 in
theorem ggX1_surveyPonds_X1_surveyPond : GoodIn wsX1_surveyPonds wsX1_surveyPond := goodIn_r _ [15, 16, 17, 1, 18, 19, 9, 10, 6, 11, 20, 21, 22, 23, 24, 25, 26, 27, 28, 29, 30, 31, 32, 33, 34, 35, 36, 37, 38, 3, 4, 5, 7, 8, 39, 40, 41, 42, 43, 44, 45, 46, 47] (by decide +kernel) (by decide +kernel)
set_option maxRecDepth 20000 in
theorem gX1_surveyPonds_X1_surveyPond : GoodIn wsX1_surveyPonds (wsV RX1 90 RX1 yX1_surveyPond wsX1_surveyPond) := goodIn_app (goodIn_of _ (by decide +kernel)) ggX1_surveyPonds_X1_surveyPond
theorem dX1_surveyPonds_0 : decode cX1_surveyPonds 0 = .ok (.iconst 0, 1) := by decide +kernel
theorem dX1_surveyPonds_1 : decode cX1_surveyPonds 1 = .ok (.istore_n 1, 1) := by decide +kernel
theorem dX1_surveyPonds_2 : decode cX1_surveyPonds 2 = .ok (.iload_n 1, 1) := by decide +kernel
theorem dX1_surveyPonds_3 : decode cX1_surveyPonds 3 = .ok (.bipush 70, 2) := by decide +kernel
theorem dX1_surveyPonds_5 : decode cX1_surveyPonds 5 = .ok (.if_icmp .ge 16, 3) := by decide +kernel
theorem dX1_surveyPonds_8 : decode cX1_surveyPonds 8 = .ok (.aload_n 0, 1) := by decide +kernel
theorem dX1_surveyPonds_9 : decode cX1_surveyPonds 9 = .ok (.getfield 24, 3) := by decide +kernel
theorem dX1_surveyPonds_12 : decode cX1_surveyPonds 12 = .ok (.iload_n 1, 1) := by decide +kernel
theorem dX1_surveyPonds_13 : decode cX1_surveyPonds 13 = .ok (.iconst (-1), 1) := by decide +kernel
theorem dX1_surveyPonds_14 : decode cX1_surveyPonds 14 = .ok (.iastore, 1) := by decide +kernel
theorem dX1_surveyPonds_15 : decode cX1_surveyPonds 15 = .ok (.iinc 1 1, 3) := by decide +kernel
theorem dX1_surveyPonds_18 : decode cX1_surveyPonds 18 = .ok (.goto (-16), 3) := by decide +kernel
theorem dX1_surveyPonds_21 : decode cX1_surveyPonds 21 = .ok (.aload_n 0, 1) := by decide +kernel
theorem dX1_surveyPonds_22 : decode cX1_surveyPonds 22 = .ok (.iconst 0, 1) := by decide +kernel
theorem dX1_surveyPonds_23 : decode cX1_surveyPonds 23 = .ok (.putfield 36, 3) := by decide +kernel
theorem dX1_surveyPonds_26 : decode cX1_surveyPonds 26 = .ok (.iconst 0, 1) := by decide +kernel
theorem dX1_surveyPonds_27 : decode cX1_surveyPonds 27 = .ok (.istore_n 1, 1) := by decide +kernel
theorem dX1_surveyPonds_28 : decode cX1_surveyPonds 28 = .ok (.iload_n 1, 1) := by decide +kernel
theorem dX1_surveyPonds_29 : decode cX1_surveyPonds 29 = .ok (.bipush 70, 2) := by decide +kernel
theorem dX1_surveyPonds_31 : decode cX1_surveyPonds 31 = .ok (.if_icmp .ge 36, 3) := by decide +kernel
theorem dX1_surveyPonds_34 : decode cX1_surveyPonds 34 = .ok (.aload_n 0, 1) := by decide +kernel
theorem dX1_surveyPonds_35 : decode cX1_surveyPonds 35 = .ok (.iload_n 1, 1) := by decide +kernel
theorem dX1_surveyPonds_36 : decode cX1_surveyPonds 36 = .ok (.invokevirtual 87, 3) := by decide +kernel
theorem dX1_surveyPonds_39 : decode cX1_surveyPonds 39 = .ok (.ifCond .eq 22, 3) := by decide +kernel
theorem dX1_surveyPonds_42 : decode cX1_surveyPonds 42 = .ok (.aload_n 0, 1) := by decide +kernel
theorem dX1_surveyPonds_43 : decode cX1_surveyPonds 43 = .ok (.aload_n 0, 1) := by decide +kernel
theorem dX1_surveyPonds_44 : decode cX1_surveyPonds 44 = .ok (.getfield 36, 3) := by decide +kernel
theorem dX1_surveyPonds_47 : decode cX1_surveyPonds 47 = .ok (.iload_n 1, 1) := by decide +kernel
theorem dX1_surveyPonds_48 : decode cX1_surveyPonds 48 = .ok (.invokevirtual 90, 3) := by decide +kernel
theorem dX1_surveyPonds_51 : decode cX1_surveyPonds 51 = .ok (.aload_n 0, 1) := by decide +kernel
theorem dX1_surveyPonds_52 : decode cX1_surveyPonds 52 = .ok (.dup, 1) := by decide +kernel
theorem dX1_surveyPonds_53 : decode cX1_surveyPonds 53 = .ok (.getfield 36, 3) := by decide +kernel
theorem dX1_surveyPonds_56 : decode cX1_surveyPonds 56 = .ok (.iconst 1, 1) := by decide +kernel
theorem dX1_surveyPonds_57 : decode cX1_surveyPonds 57 = .ok (.iadd, 1) := by decide +kernel
theorem dX1_surveyPonds_58 : decode cX1_surveyPonds 58 = .ok (.putfield 36, 3) := by decide +kernel
theorem dX1_surveyPonds_61 : decode cX1_surveyPonds 61 = .ok (.iinc 1 1, 3) := by decide +kernel
theorem dX1_surveyPonds_64 : decode cX1_surveyPonds 64 = .ok (.goto (-36), 3) := by decide +kernel
theorem dX1_surveyPonds_67 : decode cX1_surveyPonds 67 = .ok (.return_, 1) := by decide +kernel
set_option maxRecDepth 20000 in
theorem ggX1_surveyPond_X1_isPlace : GoodIn wsX1_surveyPond wsX1_isPlace := goodIn_r _ [9] (by decide +kernel) (by decide +kernel)
set_option maxRecDepth 20000 in
theorem gX1_surveyPond_X1_isPlace : GoodIn wsX1_surveyPond (va_wsS RX1 40 yX1_isPlace wsX1_isPlace) := goodIn_app (goodIn_of _ (by decide +kernel)) ggX1_surveyPond_X1_isPlace
set_option maxRecDepth 20000 in
theorem ggX1_surveyPond_X1_reachOnFrom : GoodIn wsX1_surveyPond wsX1_reachOnFrom := goodIn_r _ [13, 3, 4, 14, 15, 16, 8, 17, 18, 19, 6, 7, 9, 20, 21, 22, 23, 24, 25, 26, 27, 28, 29, 30, 31, 32, 33, 34, 35, 36, 37, 38, 39, 40, 41, 42] (by decide +kernel) (by decide +kernel)
set_option maxRecDepth 20000 in
theorem gX1_surveyPond_X1_reachOnFrom : GoodIn wsX1_surveyPond (wsV RX1 94 RX1 yX1_reachOnFrom wsX1_reachOnFrom) := goodIn_app (goodIn_of _ (by decide +kernel)) ggX1_surveyPond_X1_reachOnFrom
theorem dX1_surveyPond_0 : decode cX1_surveyPond 0 = .ok (.iload_n 1, 1) := by decide +kernel
theorem dX1_surveyPond_1 : decode cX1_surveyPond 1 = .ok (.invokestatic 40, 3) := by decide +kernel
theorem dX1_surveyPond_4 : decode cX1_surveyPond 4 = .ok (.ifCond .eq 10, 3) := by decide +kernel
theorem dX1_surveyPond_7 : decode cX1_surveyPond 7 = .ok (.iload_n 2, 1) := by decide +kernel
theorem dX1_surveyPond_8 : decode cX1_surveyPond 8 = .ok (.invokestatic 40, 3) := by decide +kernel
theorem dX1_surveyPond_11 : decode cX1_surveyPond 11 = .ok (.ifCond .ne 4, 3) := by decide +kernel
theorem dX1_surveyPond_14 : decode cX1_surveyPond 14 = .ok (.return_, 1) := by decide +kernel
theorem dX1_surveyPond_15 : decode cX1_surveyPond 15 = .ok (.aload_n 0, 1) := by decide +kernel
theorem dX1_surveyPond_16 : decode cX1_surveyPond 16 = .ok (.getfield 27, 3) := by decide +kernel
theorem dX1_surveyPond_19 : decode cX1_surveyPond 19 = .ok (.iload_n 1, 1) := by decide +kernel
theorem dX1_surveyPond_20 : decode cX1_surveyPond 20 = .ok (.iconst 0, 1) := by decide +kernel
theorem dX1_surveyPond_21 : decode cX1_surveyPond 21 = .ok (.iastore, 1) := by decide +kernel
theorem dX1_surveyPond_22 : decode cX1_surveyPond 22 = .ok (.aload_n 0, 1) := by decide +kernel
theorem dX1_surveyPond_23 : decode cX1_surveyPond 23 = .ok (.getfield 30, 3) := by decide +kernel
theorem dX1_surveyPond_26 : decode cX1_surveyPond 26 = .ok (.iload_n 1, 1) := by decide +kernel
theorem dX1_surveyPond_27 : decode cX1_surveyPond 27 = .ok (.iconst 0, 1) := by decide +kernel
theorem dX1_surveyPond_28 : decode cX1_surveyPond 28 = .ok (.iastore, 1) := by decide +kernel
theorem dX1_surveyPond_29 : decode cX1_surveyPond 29 = .ok (.aload_n 0, 1) := by decide +kernel
theorem dX1_surveyPond_30 : decode cX1_surveyPond 30 = .ok (.getfield 24, 3) := by decide +kernel
theorem dX1_surveyPond_33 : decode cX1_surveyPond 33 = .ok (.iload_n 2, 1) := by decide +kernel
theorem dX1_surveyPond_34 : decode cX1_surveyPond 34 = .ok (.iload_n 1, 1) := by decide +kernel
theorem dX1_surveyPond_35 : decode cX1_surveyPond 35 = .ok (.iastore, 1) := by decide +kernel
theorem dX1_surveyPond_36 : decode cX1_surveyPond 36 = .ok (.aload_n 0, 1) := by decide +kernel
theorem dX1_surveyPond_37 : decode cX1_surveyPond 37 = .ok (.getfield 33, 3) := by decide +kernel
theorem dX1_surveyPond_40 : decode cX1_surveyPond 40 = .ok (.iconst 0, 1) := by decide +kernel
theorem dX1_surveyPond_41 : decode cX1_surveyPond 41 = .ok (.iload_n 2, 1) := by decide +kernel
theorem dX1_surveyPond_42 : decode cX1_surveyPond 42 = .ok (.iastore, 1) := by decide +kernel
theorem dX1_surveyPond_43 : decode cX1_surveyPond 43 = .ok (.iconst 1, 1) := by decide +kernel
theorem dX1_surveyPond_44 : decode cX1_surveyPond 44 = .ok (.istore_n 3, 1) := by decide +kernel
theorem dX1_surveyPond_45 : decode cX1_surveyPond 45 = .ok (.iconst 0, 1) := by decide +kernel
theorem dX1_surveyPond_46 : decode cX1_surveyPond 46 = .ok (.istore 4, 2) := by decide +kernel
theorem dX1_surveyPond_48 : decode cX1_surveyPond 48 = .ok (.iload 4, 2) := by decide +kernel
theorem dX1_surveyPond_50 : decode cX1_surveyPond 50 = .ok (.iload_n 3, 1) := by decide +kernel
theorem dX1_surveyPond_51 : decode cX1_surveyPond 51 = .ok (.if_icmp .ge 72, 3) := by decide +kernel
theorem dX1_surveyPond_54 : decode cX1_surveyPond 54 = .ok (.iload 4, 2) := by decide +kernel
theorem dX1_surveyPond_56 : decode cX1_surveyPond 56 = .ok (.bipush 70, 2) := by decide +kernel
theorem dX1_surveyPond_58 : decode cX1_surveyPond 58 = .ok (.if_icmp .ge 65, 3) := by decide +kernel
theorem dX1_surveyPond_61 : decode cX1_surveyPond 61 = .ok (.aload_n 0, 1) := by decide +kernel
theorem dX1_surveyPond_62 : decode cX1_surveyPond 62 = .ok (.getfield 33, 3) := by decide +kernel
theorem dX1_surveyPond_65 : decode cX1_surveyPond 65 = .ok (.iload 4, 2) := by decide +kernel
theorem dX1_surveyPond_67 : decode cX1_surveyPond 67 = .ok (.iaload, 1) := by decide +kernel
theorem dX1_surveyPond_68 : decode cX1_surveyPond 68 = .ok (.istore 5, 2) := by decide +kernel
theorem dX1_surveyPond_70 : decode cX1_surveyPond 70 = .ok (.aload_n 0, 1) := by decide +kernel
theorem dX1_surveyPond_71 : decode cX1_surveyPond 71 = .ok (.getfield 27, 3) := by decide +kernel
theorem dX1_surveyPond_74 : decode cX1_surveyPond 74 = .ok (.iload_n 1, 1) := by decide +kernel
theorem dX1_surveyPond_75 : decode cX1_surveyPond 75 = .ok (.dup2, 1) := by decide +kernel
theorem dX1_surveyPond_76 : decode cX1_surveyPond 76 = .ok (.iaload, 1) := by decide +kernel
theorem dX1_surveyPond_77 : decode cX1_surveyPond 77 = .ok (.iconst 1, 1) := by decide +kernel
theorem dX1_surveyPond_78 : decode cX1_surveyPond 78 = .ok (.iadd, 1) := by decide +kernel
theorem dX1_surveyPond_79 : decode cX1_surveyPond 79 = .ok (.iastore, 1) := by decide +kernel
theorem dX1_surveyPond_80 : decode cX1_surveyPond 80 = .ok (.aload_n 0, 1) := by decide +kernel
theorem dX1_surveyPond_81 : decode cX1_surveyPond 81 = .ok (.getfield 30, 3) := by decide +kernel
theorem dX1_surveyPond_84 : decode cX1_surveyPond 84 = .ok (.iload_n 1, 1) := by decide +kernel
theorem dX1_surveyPond_85 : decode cX1_surveyPond 85 = .ok (.dup2, 1) := by decide +kernel
theorem dX1_surveyPond_86 : decode cX1_surveyPond 86 = .ok (.iaload, 1) := by decide +kernel
theorem dX1_surveyPond_87 : decode cX1_surveyPond 87 = .ok (.iload 5, 2) := by decide +kernel
theorem dX1_surveyPond_89 : decode cX1_surveyPond 89 = .ok (.invokestatic 40, 3) := by decide +kernel
theorem dX1_surveyPond_92 : decode cX1_surveyPond 92 = .ok (.ifCond .eq 13, 3) := by decide +kernel
theorem dX1_surveyPond_95 : decode cX1_surveyPond 95 = .ok (.aload_n 0, 1) := by decide +kernel
theorem dX1_surveyPond_96 : decode cX1_surveyPond 96 = .ok (.getfield 21, 3) := by decide +kernel
theorem dX1_surveyPond_99 : decode cX1_surveyPond 99 = .ok (.iload 5, 2) := by decide +kernel
theorem dX1_surveyPond_101 : decode cX1_surveyPond 101 = .ok (.iaload, 1) := by decide +kernel
theorem dX1_surveyPond_102 : decode cX1_surveyPond 102 = .ok (.goto 4, 3) := by decide +kernel
theorem dX1_surveyPond_105 : decode cX1_surveyPond 105 = .ok (.iconst 0, 1) := by decide +kernel
theorem dX1_surveyPond_106 : decode cX1_surveyPond 106 = .ok (.iadd, 1) := by decide +kernel
theorem dX1_surveyPond_107 : decode cX1_surveyPond 107 = .ok (.iastore, 1) := by decide +kernel
theorem dX1_surveyPond_108 : decode cX1_surveyPond 108 = .ok (.aload_n 0, 1) := by decide +kernel
theorem dX1_surveyPond_109 : decode cX1_surveyPond 109 = .ok (.iload 5, 2) := by decide +kernel
theorem dX1_surveyPond_111 : decode cX1_surveyPond 111 = .ok (.iload_n 1, 1) := by decide +kernel
theorem dX1_surveyPond_112 : decode cX1_surveyPond 112 = .ok (.iload_n 3, 1) := by decide +kernel
theorem dX1_surveyPond_113 : decode cX1_surveyPond 113 = .ok (.invokevirtual 94, 3) := by decide +kernel
theorem dX1_surveyPond_116 : decode cX1_surveyPond 116 = .ok (.istore_n 3, 1) := by decide +kernel
theorem dX1_surveyPond_117 : decode cX1_surveyPond 117 = .ok (.iinc 4 1, 3) := by decide +kernel
theorem dX1_surveyPond_120 : decode cX1_surveyPond 120 = .ok (.goto (-72), 3) := by decide +kernel
theorem dX1_surveyPond_123 : decode cX1_surveyPond 123 = .ok (.return_, 1) := by decide +kernel
set_option maxRecDepth 20000 in
theorem ggX1_reachOnFrom_X1_beside : GoodIn wsX1_reachOnFrom wsX1_beside := goodIn_r _ [7, 8, 9, 10, 11, 6, 12, 13, 14, 15, 16, 17, 18, 19, 20, 21] (by decide +kernel) (by decide +kernel)
set_option maxRecDepth 20000 in
theorem gX1_reachOnFrom_X1_beside : GoodIn wsX1_reachOnFrom (wsV RX1 98 RX1 yX1_beside wsX1_beside) := goodIn_app (goodIn_of _ (by decide +kernel)) ggX1_reachOnFrom_X1_beside
set_option maxRecDepth 20000 in
theorem ggX1_reachOnFrom_X1_isUnknownPond : GoodIn wsX1_reachOnFrom wsX1_isUnknownPond := goodIn_r _ [25, 26, 1, 10, 11, 6, 12, 27, 28, 29, 30, 31, 32, 33, 34, 35] (by decide +kernel) (by decide +kernel)
set_option maxRecDepth 20000 in
theorem gX1_reachOnFrom_X1_isUnknownPond : GoodIn wsX1_reachOnFrom (wsV RX1 87 RX1 yX1_isUnknownPond wsX1_isUnknownPond) := goodIn_app (goodIn_of _ (by decide +kernel)) ggX1_reachOnFrom_X1_isUnknownPond
theorem dX1_reachOnFrom_0 : decode cX1_reachOnFrom 0 = .ok (.iload_n 3, 1) := by decide +kernel
theorem dX1_reachOnFrom_1 : decode cX1_reachOnFrom 1 = .ok (.istore 4, 2) := by decide +kernel
theorem dX1_reachOnFrom_3 : decode cX1_reachOnFrom 3 = .ok (.iconst 0, 1) := by decide +kernel
theorem dX1_reachOnFrom_4 : decode cX1_reachOnFrom 4 = .ok (.istore 5, 2) := by decide +kernel
theorem dX1_reachOnFrom_6 : decode cX1_reachOnFrom 6 = .ok (.iload 5, 2) := by decide +kernel
theorem dX1_reachOnFrom_8 : decode cX1_reachOnFrom 8 = .ok (.iconst 4, 1) := by decide +kernel
theorem dX1_reachOnFrom_9 : decode cX1_reachOnFrom 9 = .ok (.if_icmp .ge 59, 3) := by decide +kernel
theorem dX1_reachOnFrom_12 : decode cX1_reachOnFrom 12 = .ok (.aload_n 0, 1) := by decide +kernel
theorem dX1_reachOnFrom_13 : decode cX1_reachOnFrom 13 = .ok (.iload_n 1, 1) := by decide +kernel
theorem dX1_reachOnFrom_14 : decode cX1_reachOnFrom 14 = .ok (.iload 5, 2) := by decide +kernel
theorem dX1_reachOnFrom_16 : decode cX1_reachOnFrom 16 = .ok (.invokevirtual 98, 3) := by decide +kernel
theorem dX1_reachOnFrom_19 : decode cX1_reachOnFrom 19 = .ok (.istore 6, 2) := by decide +kernel
theorem dX1_reachOnFrom_21 : decode cX1_reachOnFrom 21 = .ok (.aload_n 0, 1) := by decide +kernel
theorem dX1_reachOnFrom_22 : decode cX1_reachOnFrom 22 = .ok (.iload 6, 2) := by decide +kernel
theorem dX1_reachOnFrom_24 : decode cX1_reachOnFrom 24 = .ok (.invokevirtual 87, 3) := by decide +kernel
theorem dX1_reachOnFrom_27 : decode cX1_reachOnFrom 27 = .ok (.ifCond .eq 35, 3) := by decide +kernel
theorem dX1_reachOnFrom_30 : decode cX1_reachOnFrom 30 = .ok (.iload 4, 2) := by decide +kernel
theorem dX1_reachOnFrom_32 : decode cX1_reachOnFrom 32 = .ok (.ifCond .lt 30, 3) := by decide +kernel
theorem dX1_reachOnFrom_35 : decode cX1_reachOnFrom 35 = .ok (.iload 4, 2) := by decide +kernel
theorem dX1_reachOnFrom_37 : decode cX1_reachOnFrom 37 = .ok (.bipush 70, 2) := by decide +kernel
theorem dX1_reachOnFrom_39 : decode cX1_reachOnFrom 39 = .ok (.if_icmp .ge 23, 3) := by decide +kernel
theorem dX1_reachOnFrom_42 : decode cX1_reachOnFrom 42 = .ok (.aload_n 0, 1) := by decide +kernel
theorem dX1_reachOnFrom_43 : decode cX1_reachOnFrom 43 = .ok (.getfield 24, 3) := by decide +kernel
theorem dX1_reachOnFrom_46 : decode cX1_reachOnFrom 46 = .ok (.iload 6, 2) := by decide +kernel
theorem dX1_reachOnFrom_48 : decode cX1_reachOnFrom 48 = .ok (.iload_n 2, 1) := by decide +kernel
theorem dX1_reachOnFrom_49 : decode cX1_reachOnFrom 49 = .ok (.iastore, 1) := by decide +kernel
theorem dX1_reachOnFrom_50 : decode cX1_reachOnFrom 50 = .ok (.aload_n 0, 1) := by decide +kernel
theorem dX1_reachOnFrom_51 : decode cX1_reachOnFrom 51 = .ok (.getfield 33, 3) := by decide +kernel
theorem dX1_reachOnFrom_54 : decode cX1_reachOnFrom 54 = .ok (.iload 4, 2) := by decide +kernel
theorem dX1_reachOnFrom_56 : decode cX1_reachOnFrom 56 = .ok (.iload 6, 2) := by decide +kernel
theorem dX1_reachOnFrom_58 : decode cX1_reachOnFrom 58 = .ok (.iastore, 1) := by decide +kernel
theorem dX1_reachOnFrom_59 : decode cX1_reachOnFrom 59 = .ok (.iinc 4 1, 3) := by decide +kernel
theorem dX1_reachOnFrom_62 : decode cX1_reachOnFrom 62 = .ok (.iinc 5 1, 3) := by decide +kernel
theorem dX1_reachOnFrom_65 : decode cX1_reachOnFrom 65 = .ok (.goto (-59), 3) := by decide +kernel
theorem dX1_reachOnFrom_68 : decode cX1_reachOnFrom 68 = .ok (.iload 4, 2) := by decide +kernel
theorem dX1_reachOnFrom_70 : decode cX1_reachOnFrom 70 = .ok (.ireturn, 1) := by decide +kernel
set_option maxRecDepth 20000 in
theorem ggX1_isUnknownPond_X1_isPlace : GoodIn wsX1_isUnknownPond wsX1_isPlace := goodIn_r _ [6] (by decide +kernel) (by decide +kernel)
set_option maxRecDepth 20000 in
theorem gX1_isUnknownPond_X1_isPlace : GoodIn wsX1_isUnknownPond (va_wsS RX1 40 yX1_isPlace wsX1_isPlace) := goodIn_app (goodIn_of _ (by decide +kernel)) ggX1_isUnknownPond_X1_isPlace
theorem dX1_isUnknownPond_0 : decode cX1_isUnknownPond 0 = .ok (.iload_n 1, 1) := by decide +kernel
theorem dX1_isUnknownPond_1 : decode cX1_isUnknownPond 1 = .ok (.invokestatic 40, 3) := by decide +kernel
theorem dX1_isUnknownPond_4 : decode cX1_isUnknownPond 4 = .ok (.ifCond .eq 27, 3) := by decide +kernel
theorem dX1_isUnknownPond_7 : decode cX1_isUnknownPond 7 = .ok (.aload_n 0, 1) := by decide +kernel
theorem dX1_isUnknownPond_8 : decode cX1_isUnknownPond 8 = .ok (.getfield 11, 3) := by decide +kernel
theorem dX1_isUnknownPond_11 : decode cX1_isUnknownPond 11 = .ok (.iload_n 1, 1) := by decide +kernel
theorem dX1_isUnknownPond_12 : decode cX1_isUnknownPond 12 = .ok (.iaload, 1) := by decide +kernel
theorem dX1_isUnknownPond_13 : decode cX1_isUnknownPond 13 = .ok (.iconst 2, 1) := by decide +kernel
theorem dX1_isUnknownPond_14 : decode cX1_isUnknownPond 14 = .ok (.if_icmp .ne 17, 3) := by decide +kernel
theorem dX1_isUnknownPond_17 : decode cX1_isUnknownPond 17 = .ok (.aload_n 0, 1) := by decide +kernel
theorem dX1_isUnknownPond_18 : decode cX1_isUnknownPond 18 = .ok (.getfield 24, 3) := by decide +kernel
theorem dX1_isUnknownPond_21 : decode cX1_isUnknownPond 21 = .ok (.iload_n 1, 1) := by decide +kernel
theorem dX1_isUnknownPond_22 : decode cX1_isUnknownPond 22 = .ok (.iaload, 1) := by decide +kernel
theorem dX1_isUnknownPond_23 : decode cX1_isUnknownPond 23 = .ok (.iconst (-1), 1) := by decide +kernel
theorem dX1_isUnknownPond_24 : decode cX1_isUnknownPond 24 = .ok (.if_icmp .ne 7, 3) := by decide +kernel
theorem dX1_isUnknownPond_27 : decode cX1_isUnknownPond 27 = .ok (.iconst 1, 1) := by decide +kernel
theorem dX1_isUnknownPond_28 : decode cX1_isUnknownPond 28 = .ok (.goto 4, 3) := by decide +kernel
theorem dX1_isUnknownPond_31 : decode cX1_isUnknownPond 31 = .ok (.iconst 0, 1) := by decide +kernel
theorem dX1_isUnknownPond_32 : decode cX1_isUnknownPond 32 = .ok (.ireturn, 1) := by decide +kernel
theorem dX2_init_0 : decode cX2_init 0 = .ok (.aload_n 0, 1) := by decide +kernel
theorem dX2_init_1 : decode cX2_init 1 = .ok (.invokespecial 3, 3) := by decide +kernel
theorem dX2_init_4 : decode cX2_init 4 = .ok (.aload_n 0, 1) := by decide +kernel
theorem dX2_init_5 : decode cX2_init 5 = .ok (.bipush 6, 2) := by decide +kernel
theorem dX2_init_7 : decode cX2_init 7 = .ok (.newarray .int, 2) := by decide +kernel
theorem dX2_init_9 : decode cX2_init 9 = .ok (.putfield 9, 3) := by decide +kernel
theorem dX2_init_12 : decode cX2_init 12 = .ok (.aload_n 0, 1) := by decide +kernel
theorem dX2_init_13 : decode cX2_init 13 = .ok (.bipush 6, 2) := by decide +kernel
theorem dX2_init_15 : decode cX2_init 15 = .ok (.newarray .int, 2) := by decide +kernel
theorem dX2_init_17 : decode cX2_init 17 = .ok (.putfield 15, 3) := by decide +kernel
theorem dX2_init_20 : decode cX2_init 20 = .ok (.aload_n 0, 1) := by decide +kernel
theorem dX2_init_21 : decode cX2_init 21 = .ok (.iconst 0, 1) := by decide +kernel
theorem dX2_init_22 : decode cX2_init 22 = .ok (.putfield 18, 3) := by decide +kernel
theorem dX2_init_25 : decode cX2_init 25 = .ok (.return_, 1) := by decide +kernel
theorem dX2_isNumber_0 : decode cX2_isNumber 0 = .ok (.iload_n 1, 1) := by decide +kernel
theorem dX2_isNumber_1 : decode cX2_isNumber 1 = .ok (.ifCond .lt 21, 3) := by decide +kernel
theorem dX2_isNumber_4 : decode cX2_isNumber 4 = .ok (.iload_n 1, 1) := by decide +kernel
theorem dX2_isNumber_5 : decode cX2_isNumber 5 = .ok (.aload_n 0, 1) := by decide +kernel
theorem dX2_isNumber_6 : decode cX2_isNumber 6 = .ok (.getfield 18, 3) := by decide +kernel
theorem dX2_isNumber_9 : decode cX2_isNumber 9 = .ok (.if_icmp .ge 13, 3) := by decide +kernel
theorem dX2_isNumber_12 : decode cX2_isNumber 12 = .ok (.iload_n 1, 1) := by decide +kernel
theorem dX2_isNumber_13 : decode cX2_isNumber 13 = .ok (.bipush 6, 2) := by decide +kernel
theorem dX2_isNumber_15 : decode cX2_isNumber 15 = .ok (.if_icmp .ge 7, 3) := by decide +kernel
theorem dX2_isNumber_18 : decode cX2_isNumber 18 = .ok (.iconst 1, 1) := by decide +kernel
theorem dX2_isNumber_19 : decode cX2_isNumber 19 = .ok (.goto 4, 3) := by decide +kernel
theorem dX2_isNumber_22 : decode cX2_isNumber 22 = .ok (.iconst 0, 1) := by decide +kernel
theorem dX2_isNumber_23 : decode cX2_isNumber 23 = .ok (.ireturn, 1) := by decide +kernel
theorem dX2_add_0 : decode cX2_add 0 = .ok (.aload_n 0, 1) := by decide +kernel
theorem dX2_add_1 : decode cX2_add 1 = .ok (.getfield 18, 3) := by decide +kernel
theorem dX2_add_4 : decode cX2_add 4 = .ok (.istore_n 3, 1) := by decide +kernel
theorem dX2_add_5 : decode cX2_add 5 = .ok (.iload_n 3, 1) := by decide +kernel
theorem dX2_add_6 : decode cX2_add 6 = .ok (.ifCond .lt 33, 3) := by decide +kernel
theorem dX2_add_9 : decode cX2_add 9 = .ok (.iload_n 3, 1) := by decide +kernel
theorem dX2_add_10 : decode cX2_add 10 = .ok (.bipush 6, 2) := by decide +kernel
theorem dX2_add_12 : decode cX2_add 12 = .ok (.if_icmp .ge 27, 3) := by decide +kernel
theorem dX2_add_15 : decode cX2_add 15 = .ok (.aload_n 0, 1) := by decide +kernel
theorem dX2_add_16 : decode cX2_add 16 = .ok (.getfield 9, 3) := by decide +kernel
theorem dX2_add_19 : decode cX2_add 19 = .ok (.iload_n 3, 1) := by decide +kernel
theorem dX2_add_20 : decode cX2_add 20 = .ok (.iload_n 1, 1) := by decide +kernel
theorem dX2_add_21 : decode cX2_add 21 = .ok (.iastore, 1) := by decide +kernel
theorem dX2_add_22 : decode cX2_add 22 = .ok (.aload_n 0, 1) := by decide +kernel
theorem dX2_add_23 : decode cX2_add 23 = .ok (.getfield 15, 3) := by decide +kernel
theorem dX2_add_26 : decode cX2_add 26 = .ok (.iload_n 3, 1) := by decide +kernel
theorem dX2_add_27 : decode cX2_add 27 = .ok (.iload_n 2, 1) := by decide +kernel
theorem dX2_add_28 : decode cX2_add 28 = .ok (.iastore, 1) := by decide +kernel
theorem dX2_add_29 : decode cX2_add 29 = .ok (.aload_n 0, 1) := by decide +kernel
theorem dX2_add_30 : decode cX2_add 30 = .ok (.dup, 1) := by decide +kernel
theorem dX2_add_31 : decode cX2_add 31 = .ok (.getfield 18, 3) := by decide +kernel
theorem dX2_add_34 : decode cX2_add 34 = .ok (.iconst 1, 1) := by decide +kernel
theorem dX2_add_35 : decode cX2_add 35 = .ok (.iadd, 1) := by decide +kernel
theorem dX2_add_36 : decode cX2_add 36 = .ok (.putfield 18, 3) := by decide +kernel
theorem dX2_add_39 : decode cX2_add 39 = .ok (.iload_n 3, 1) := by decide +kernel
theorem dX2_add_40 : decode cX2_add 40 = .ok (.ireturn, 1) := by decide +kernel
set_option maxRecDepth 20000 in
theorem ggX2_placeOf_X2_isNumber : GoodIn wsX2_placeOf wsX2_isNumber := goodIn_r _ [6, 7, 8, 9, 10] (by decide +kernel) (by decide +kernel)
set_option maxRecDepth 20000 in
theorem gX2_placeOf_X2_isNumber : GoodIn wsX2_placeOf (wsV RX2 22 RX2 yX2_isNumber wsX2_isNumber) := goodIn_app (goodIn_of _ (by decide +kernel)) ggX2_placeOf_X2_isNumber
theorem dX2_placeOf_0 : decode cX2_placeOf 0 = .ok (.aload_n 0, 1) := by decide +kernel
theorem dX2_placeOf_1 : decode cX2_placeOf 1 = .ok (.iload_n 1, 1) := by decide +kernel
theorem dX2_placeOf_2 : decode cX2_placeOf 2 = .ok (.invokevirtual 22, 3) := by decide +kernel
theorem dX2_placeOf_5 : decode cX2_placeOf 5 = .ok (.ifCond .eq 12, 3) := by decide +kernel
theorem dX2_placeOf_8 : decode cX2_placeOf 8 = .ok (.aload_n 0, 1) := by decide +kernel
theorem dX2_placeOf_9 : decode cX2_placeOf 9 = .ok (.getfield 9, 3) := by decide +kernel
theorem dX2_placeOf_12 : decode cX2_placeOf 12 = .ok (.iload_n 1, 1) := by decide +kernel
theorem dX2_placeOf_13 : decode cX2_placeOf 13 = .ok (.iaload, 1) := by decide +kernel
theorem dX2_placeOf_14 : decode cX2_placeOf 14 = .ok (.goto 4, 3) := by decide +kernel
theorem dX2_placeOf_17 : decode cX2_placeOf 17 = .ok (.iconst (-1), 1) := by decide +kernel
theorem dX2_placeOf_18 : decode cX2_placeOf 18 = .ok (.ireturn, 1) := by decide +kernel
set_option maxRecDepth 20000 in
theorem ggX2_directionOf_X2_isNumber : GoodIn wsX2_directionOf wsX2_isNumber := goodIn_r _ [6, 7, 8, 9, 10] (by decide +kernel) (by decide +kernel)
set_option maxRecDepth 20000 in
theorem gX2_directionOf_X2_isNumber : GoodIn wsX2_directionOf (wsV RX2 22 RX2 yX2_isNumber wsX2_isNumber) := goodIn_app (goodIn_of _ (by decide +kernel)) ggX2_directionOf_X2_isNumber
theorem dX2_directionOf_0 : decode cX2_directionOf 0 = .ok (.aload_n 0, 1) := by decide +kernel
theorem dX2_directionOf_1 : decode cX2_directionOf 1 = .ok (.iload_n 1, 1) := by decide +kernel
theorem dX2_directionOf_2 : decode cX2_directionOf 2 = .ok (.invokevirtual 22, 3) := by decide +kernel
theorem dX2_directionOf_5 : decode cX2_directionOf 5 = .ok (.ifCond .eq 12, 3) := by decide +kernel
theorem dX2_directionOf_8 : decode cX2_directionOf 8 = .ok (.aload_n 0, 1) := by decide +kernel
theorem dX2_directionOf_9 : decode cX2_directionOf 9 = .ok (.getfield 15, 3) := by decide +kernel
theorem dX2_directionOf_12 : decode cX2_directionOf 12 = .ok (.iload_n 1, 1) := by decide +kernel
theorem dX2_directionOf_13 : decode cX2_directionOf 13 = .ok (.iaload, 1) := by decide +kernel
theorem dX2_directionOf_14 : decode cX2_directionOf 14 = .ok (.goto 4, 3) := by decide +kernel
theorem dX2_directionOf_17 : decode cX2_directionOf 17 = .ok (.iconst (-1), 1) := by decide +kernel
theorem dX2_directionOf_18 : decode cX2_directionOf 18 = .ok (.ireturn, 1) := by decide +kernel
theorem dX3_init_0 : decode cX3_init 0 = .ok (.aload_n 0, 1) := by decide +kernel
theorem dX3_init_1 : decode cX3_init 1 = .ok (.invokespecial 3, 3) := by decide +kernel
theorem dX3_init_4 : decode cX3_init 4 = .ok (.aload_n 0, 1) := by decide +kernel
theorem dX3_init_5 : decode cX3_init 5 = .ok (.iconst 5, 1) := by decide +kernel
theorem dX3_init_6 : decode cX3_init 6 = .ok (.newarray .int, 2) := by decide +kernel
theorem dX3_init_8 : decode cX3_init 8 = .ok (.putfield 9, 3) := by decide +kernel
theorem dX3_init_11 : decode cX3_init 11 = .ok (.aload_n 0, 1) := by decide +kernel
theorem dX3_init_12 : decode cX3_init 12 = .ok (.iconst 0, 1) := by decide +kernel
theorem dX3_init_13 : decode cX3_init 13 = .ok (.putfield 15, 3) := by decide +kernel
theorem dX3_init_16 : decode cX3_init 16 = .ok (.return_, 1) := by decide +kernel
theorem dX3_isNumber_0 : decode cX3_isNumber 0 = .ok (.iload_n 1, 1) := by decide +kernel
theorem dX3_isNumber_1 : decode cX3_isNumber 1 = .ok (.ifCond .lt 20, 3) := by decide +kernel
theorem dX3_isNumber_4 : decode cX3_isNumber 4 = .ok (.iload_n 1, 1) := by decide +kernel
theorem dX3_isNumber_5 : decode cX3_isNumber 5 = .ok (.aload_n 0, 1) := by decide +kernel
theorem dX3_isNumber_6 : decode cX3_isNumber 6 = .ok (.getfield 15, 3) := by decide +kernel
theorem dX3_isNumber_9 : decode cX3_isNumber 9 = .ok (.if_icmp .ge 12, 3) := by decide +kernel
theorem dX3_isNumber_12 : decode cX3_isNumber 12 = .ok (.iload_n 1, 1) := by decide +kernel
theorem dX3_isNumber_13 : decode cX3_isNumber 13 = .ok (.iconst 5, 1) := by decide +kernel
theorem dX3_isNumber_14 : decode cX3_isNumber 14 = .ok (.if_icmp .ge 7, 3) := by decide +kernel
theorem dX3_isNumber_17 : decode cX3_isNumber 17 = .ok (.iconst 1, 1) := by decide +kernel
theorem dX3_isNumber_18 : decode cX3_isNumber 18 = .ok (.goto 4, 3) := by decide +kernel
theorem dX3_isNumber_21 : decode cX3_isNumber 21 = .ok (.iconst 0, 1) := by decide +kernel
theorem dX3_isNumber_22 : decode cX3_isNumber 22 = .ok (.ireturn, 1) := by decide +kernel
theorem dX3_add_0 : decode cX3_add 0 = .ok (.aload_n 0, 1) := by decide +kernel
theorem dX3_add_1 : decode cX3_add 1 = .ok (.getfield 15, 3) := by decide +kernel
theorem dX3_add_4 : decode cX3_add 4 = .ok (.istore_n 2, 1) := by decide +kernel
theorem dX3_add_5 : decode cX3_add 5 = .ok (.iload_n 2, 1) := by decide +kernel
theorem dX3_add_6 : decode cX3_add 6 = .ok (.ifCond .lt 25, 3) := by decide +kernel
theorem dX3_add_9 : decode cX3_add 9 = .ok (.iload_n 2, 1) := by decide +kernel
theorem dX3_add_10 : decode cX3_add 10 = .ok (.iconst 5, 1) := by decide +kernel
theorem dX3_add_11 : decode cX3_add 11 = .ok (.if_icmp .ge 20, 3) := by decide +kernel
theorem dX3_add_14 : decode cX3_add 14 = .ok (.aload_n 0, 1) := by decide +kernel
theorem dX3_add_15 : decode cX3_add 15 = .ok (.getfield 9, 3) := by decide +kernel
theorem dX3_add_18 : decode cX3_add 18 = .ok (.iload_n 2, 1) := by decide +kernel
theorem dX3_add_19 : decode cX3_add 19 = .ok (.iload_n 1, 1) := by decide +kernel
theorem dX3_add_20 : decode cX3_add 20 = .ok (.iastore, 1) := by decide +kernel
theorem dX3_add_21 : decode cX3_add 21 = .ok (.aload_n 0, 1) := by decide +kernel
theorem dX3_add_22 : decode cX3_add 22 = .ok (.dup, 1) := by decide +kernel
theorem dX3_add_23 : decode cX3_add 23 = .ok (.getfield 15, 3) := by decide +kernel
theorem dX3_add_26 : decode cX3_add 26 = .ok (.iconst 1, 1) := by decide +kernel
theorem dX3_add_27 : decode cX3_add 27 = .ok (.iadd, 1) := by decide +kernel
theorem dX3_add_28 : decode cX3_add 28 = .ok (.putfield 15, 3) := by decide +kernel
theorem dX3_add_31 : decode cX3_add 31 = .ok (.iload_n 2, 1) := by decide +kernel
theorem dX3_add_32 : decode cX3_add 32 = .ok (.ireturn, 1) := by decide +kernel
set_option maxRecDepth 20000 in
theorem ggX3_gateOf_X3_isNumber : GoodIn wsX3_gateOf wsX3_isNumber := goodIn_r _ [6, 7, 8, 9] (by decide +kernel) (by decide +kernel)
set_option maxRecDepth 20000 in
theorem gX3_gateOf_X3_isNumber : GoodIn wsX3_gateOf (wsV RX3 19 RX3 yX3_isNumber wsX3_isNumber) := goodIn_app (goodIn_of _ (by decide +kernel)) ggX3_gateOf_X3_isNumber
theorem dX3_gateOf_0 : decode cX3_gateOf 0 = .ok (.aload_n 0, 1) := by decide +kernel
theorem dX3_gateOf_1 : decode cX3_gateOf 1 = .ok (.iload_n 1, 1) := by decide +kernel
theorem dX3_gateOf_2 : decode cX3_gateOf 2 = .ok (.invokevirtual 19, 3) := by decide +kernel
theorem dX3_gateOf_5 : decode cX3_gateOf 5 = .ok (.ifCond .eq 12, 3) := by decide +kernel
theorem dX3_gateOf_8 : decode cX3_gateOf 8 = .ok (.aload_n 0, 1) := by decide +kernel
theorem dX3_gateOf_9 : decode cX3_gateOf 9 = .ok (.getfield 9, 3) := by decide +kernel
theorem dX3_gateOf_12 : decode cX3_gateOf 12 = .ok (.iload_n 1, 1) := by decide +kernel
theorem dX3_gateOf_13 : decode cX3_gateOf 13 = .ok (.iaload, 1) := by decide +kernel
theorem dX3_gateOf_14 : decode cX3_gateOf 14 = .ok (.goto 4, 3) := by decide +kernel
theorem dX3_gateOf_17 : decode cX3_gateOf 17 = .ok (.iconst (-1), 1) := by decide +kernel
theorem dX3_gateOf_18 : decode cX3_gateOf 18 = .ok (.ireturn, 1) := by decide +kernel
set_option maxRecDepth 20000 in
theorem ggX3_setGate_X3_isNumber : GoodIn wsX3_setGate wsX3_isNumber := goodIn_r _ [6, 7, 8, 9] (by decide +kernel) (by decide +kernel)
set_option maxRecDepth 20000 in
theorem gX3_setGate_X3_isNumber : GoodIn wsX3_setGate (wsV RX3 19 RX3 yX3_isNumber wsX3_isNumber) := goodIn_app (goodIn_of _ (by decide +kernel)) ggX3_setGate_X3_isNumber
theorem dX3_setGate_0 : decode cX3_setGate 0 = .ok (.aload_n 0, 1) := by decide +kernel
theorem dX3_setGate_1 : decode cX3_setGate 1 = .ok (.iload_n 1, 1) := by decide +kernel
theorem dX3_setGate_2 : decode cX3_setGate 2 = .ok (.invokevirtual 19, 3) := by decide +kernel
theorem dX3_setGate_5 : decode cX3_setGate 5 = .ok (.ifCond .eq 10, 3) := by decide +kernel
theorem dX3_setGate_8 : decode cX3_setGate 8 = .ok (.aload_n 0, 1) := by decide +kernel
theorem dX3_setGate_9 : decode cX3_setGate 9 = .ok (.getfield 9, 3) := by decide +kernel
theorem dX3_setGate_12 : decode cX3_setGate 12 = .ok (.iload_n 1, 1) := by decide +kernel
theorem dX3_setGate_13 : decode cX3_setGate 13 = .ok (.iload_n 2, 1) := by decide +kernel
theorem dX3_setGate_14 : decode cX3_setGate 14 = .ok (.iastore, 1) := by decide +kernel
theorem dX3_setGate_15 : decode cX3_setGate 15 = .ok (.return_, 1) := by decide +kernel
set_option maxRecDepth 20000 in
theorem ggX3_manyAt_X3_gateOf : GoodIn wsX3_manyAt wsX3_gateOf := goodIn_r _ [6, 7, 8, 9, 10, 5, 11, 1, 12, 13] (by decide +kernel) (by decide +kernel)
set_option maxRecDepth 20000 in
theorem gX3_manyAt_X3_gateOf : GoodIn wsX3_manyAt (wsV RX3 23 RX3 yX3_gateOf wsX3_gateOf) := goodIn_app (goodIn_of _ (by decide +kernel)) ggX3_manyAt_X3_gateOf
theorem dX3_manyAt_0 : decode cX3_manyAt 0 = .ok (.iconst 0, 1) := by decide +kernel
theorem dX3_manyAt_1 : decode cX3_manyAt 1 = .ok (.istore_n 2, 1) := by decide +kernel
theorem dX3_manyAt_2 : decode cX3_manyAt 2 = .ok (.iconst 0, 1) := by decide +kernel
theorem dX3_manyAt_3 : decode cX3_manyAt 3 = .ok (.istore_n 3, 1) := by decide +kernel
theorem dX3_manyAt_4 : decode cX3_manyAt 4 = .ok (.iload_n 3, 1) := by decide +kernel
theorem dX3_manyAt_5 : decode cX3_manyAt 5 = .ok (.aload_n 0, 1) := by decide +kernel
theorem dX3_manyAt_6 : decode cX3_manyAt 6 = .ok (.getfield 15, 3) := by decide +kernel
theorem dX3_manyAt_9 : decode cX3_manyAt 9 = .ok (.if_icmp .ge 21, 3) := by decide +kernel
theorem dX3_manyAt_12 : decode cX3_manyAt 12 = .ok (.aload_n 0, 1) := by decide +kernel
theorem dX3_manyAt_13 : decode cX3_manyAt 13 = .ok (.iload_n 3, 1) := by decide +kernel
theorem dX3_manyAt_14 : decode cX3_manyAt 14 = .ok (.invokevirtual 23, 3) := by decide +kernel
theorem dX3_manyAt_17 : decode cX3_manyAt 17 = .ok (.iload_n 1, 1) := by decide +kernel
theorem dX3_manyAt_18 : decode cX3_manyAt 18 = .ok (.if_icmp .ne 6, 3) := by decide +kernel
theorem dX3_manyAt_21 : decode cX3_manyAt 21 = .ok (.iinc 2 1, 3) := by decide +kernel
theorem dX3_manyAt_24 : decode cX3_manyAt 24 = .ok (.iinc 3 1, 3) := by decide +kernel
theorem dX3_manyAt_27 : decode cX3_manyAt 27 = .ok (.goto (-23), 3) := by decide +kernel
theorem dX3_manyAt_30 : decode cX3_manyAt 30 = .ok (.iload_n 2, 1) := by decide +kernel
theorem dX3_manyAt_31 : decode cX3_manyAt 31 = .ok (.ireturn, 1) := by decide +kernel
theorem dX4_init_0 : decode cX4_init 0 = .ok (.aload_n 0, 1) := by decide +kernel
theorem dX4_init_1 : decode cX4_init 1 = .ok (.invokespecial 3, 3) := by decide +kernel
theorem dX4_init_4 : decode cX4_init 4 = .ok (.aload_n 0, 1) := by decide +kernel
theorem dX4_init_5 : decode cX4_init 5 = .ok (.bipush 30, 2) := by decide +kernel
theorem dX4_init_7 : decode cX4_init 7 = .ok (.newarray .int, 2) := by decide +kernel
theorem dX4_init_9 : decode cX4_init 9 = .ok (.putfield 9, 3) := by decide +kernel
theorem dX4_init_12 : decode cX4_init 12 = .ok (.aload_n 0, 1) := by decide +kernel
theorem dX4_init_13 : decode cX4_init 13 = .ok (.bipush 30, 2) := by decide +kernel
theorem dX4_init_15 : decode cX4_init 15 = .ok (.newarray .boolean, 2) := by decide +kernel
theorem dX4_init_17 : decode cX4_init 17 = .ok (.putfield 15, 3) := by decide +kernel
theorem dX4_init_20 : decode cX4_init 20 = .ok (.aload_n 0, 1) := by decide +kernel
theorem dX4_init_21 : decode cX4_init 21 = .ok (.iconst 0, 1) := by decide +kernel
theorem dX4_init_22 : decode cX4_init 22 = .ok (.putfield 19, 3) := by decide +kernel
theorem dX4_init_25 : decode cX4_init 25 = .ok (.return_, 1) := by decide +kernel
theorem dX4_isNumber_0 : decode cX4_isNumber 0 = .ok (.iload_n 1, 1) := by decide +kernel
theorem dX4_isNumber_1 : decode cX4_isNumber 1 = .ok (.ifCond .lt 21, 3) := by decide +kernel
theorem dX4_isNumber_4 : decode cX4_isNumber 4 = .ok (.iload_n 1, 1) := by decide +kernel
theorem dX4_isNumber_5 : decode cX4_isNumber 5 = .ok (.aload_n 0, 1) := by decide +kernel
theorem dX4_isNumber_6 : decode cX4_isNumber 6 = .ok (.getfield 19, 3) := by decide +kernel
theorem dX4_isNumber_9 : decode cX4_isNumber 9 = .ok (.if_icmp .ge 13, 3) := by decide +kernel
theorem dX4_isNumber_12 : decode cX4_isNumber 12 = .ok (.iload_n 1, 1) := by decide +kernel
theorem dX4_isNumber_13 : decode cX4_isNumber 13 = .ok (.bipush 30, 2) := by decide +kernel
theorem dX4_isNumber_15 : decode cX4_isNumber 15 = .ok (.if_icmp .ge 7, 3) := by decide +kernel
theorem dX4_isNumber_18 : decode cX4_isNumber 18 = .ok (.iconst 1, 1) := by decide +kernel
theorem dX4_isNumber_19 : decode cX4_isNumber 19 = .ok (.goto 4, 3) := by decide +kernel
theorem dX4_isNumber_22 : decode cX4_isNumber 22 = .ok (.iconst 0, 1) := by decide +kernel
theorem dX4_isNumber_23 : decode cX4_isNumber 23 = .ok (.ireturn, 1) := by decide +kernel
theorem dX4_add_0 : decode cX4_add 0 = .ok (.aload_n 0, 1) := by decide +kernel
theorem dX4_add_1 : decode cX4_add 1 = .ok (.getfield 19, 3) := by decide +kernel
theorem dX4_add_4 : decode cX4_add 4 = .ok (.istore_n 2, 1) := by decide +kernel
theorem dX4_add_5 : decode cX4_add 5 = .ok (.iload_n 2, 1) := by decide +kernel
theorem dX4_add_6 : decode cX4_add 6 = .ok (.ifCond .lt 33, 3) := by decide +kernel
theorem dX4_add_9 : decode cX4_add 9 = .ok (.iload_n 2, 1) := by decide +kernel
theorem dX4_add_10 : decode cX4_add 10 = .ok (.bipush 30, 2) := by decide +kernel
theorem dX4_add_12 : decode cX4_add 12 = .ok (.if_icmp .ge 27, 3) := by decide +kernel
theorem dX4_add_15 : decode cX4_add 15 = .ok (.aload_n 0, 1) := by decide +kernel
theorem dX4_add_16 : decode cX4_add 16 = .ok (.getfield 9, 3) := by decide +kernel
theorem dX4_add_19 : decode cX4_add 19 = .ok (.iload_n 2, 1) := by decide +kernel
theorem dX4_add_20 : decode cX4_add 20 = .ok (.iload_n 1, 1) := by decide +kernel
theorem dX4_add_21 : decode cX4_add 21 = .ok (.iastore, 1) := by decide +kernel
theorem dX4_add_22 : decode cX4_add 22 = .ok (.aload_n 0, 1) := by decide +kernel
theorem dX4_add_23 : decode cX4_add 23 = .ok (.getfield 15, 3) := by decide +kernel
theorem dX4_add_26 : decode cX4_add 26 = .ok (.iload_n 2, 1) := by decide +kernel
theorem dX4_add_27 : decode cX4_add 27 = .ok (.iconst 0, 1) := by decide +kernel
theorem dX4_add_28 : decode cX4_add 28 = .ok (.bastore, 1) := by decide +kernel
theorem dX4_add_29 : decode cX4_add 29 = .ok (.aload_n 0, 1) := by decide +kernel
theorem dX4_add_30 : decode cX4_add 30 = .ok (.dup, 1) := by decide +kernel
theorem dX4_add_31 : decode cX4_add 31 = .ok (.getfield 19, 3) := by decide +kernel
theorem dX4_add_34 : decode cX4_add 34 = .ok (.iconst 1, 1) := by decide +kernel
theorem dX4_add_35 : decode cX4_add 35 = .ok (.iadd, 1) := by decide +kernel
theorem dX4_add_36 : decode cX4_add 36 = .ok (.putfield 19, 3) := by decide +kernel
theorem dX4_add_39 : decode cX4_add 39 = .ok (.iload_n 2, 1) := by decide +kernel
theorem dX4_add_40 : decode cX4_add 40 = .ok (.ireturn, 1) := by decide +kernel
set_option maxRecDepth 20000 in
theorem ggX4_takeOut_X4_isNumber : GoodIn wsX4_takeOut wsX4_isNumber := goodIn_r _ [6, 7, 8, 9, 10] (by decide +kernel) (by decide +kernel)
set_option maxRecDepth 20000 in
theorem gX4_takeOut_X4_isNumber : GoodIn wsX4_takeOut (wsV RX4 23 RX4 yX4_isNumber wsX4_isNumber) := goodIn_app (goodIn_of _ (by decide +kernel)) ggX4_takeOut_X4_isNumber
theorem dX4_takeOut_0 : decode cX4_takeOut 0 = .ok (.aload_n 0, 1) := by decide +kernel
theorem dX4_takeOut_1 : decode cX4_takeOut 1 = .ok (.iload_n 1, 1) := by decide +kernel
theorem dX4_takeOut_2 : decode cX4_takeOut 2 = .ok (.invokevirtual 23, 3) := by decide +kernel
theorem dX4_takeOut_5 : decode cX4_takeOut 5 = .ok (.ifCond .eq 10, 3) := by decide +kernel
theorem dX4_takeOut_8 : decode cX4_takeOut 8 = .ok (.aload_n 0, 1) := by decide +kernel
theorem dX4_takeOut_9 : decode cX4_takeOut 9 = .ok (.getfield 15, 3) := by decide +kernel
theorem dX4_takeOut_12 : decode cX4_takeOut 12 = .ok (.iload_n 1, 1) := by decide +kernel
theorem dX4_takeOut_13 : decode cX4_takeOut 13 = .ok (.iconst 1, 1) := by decide +kernel
theorem dX4_takeOut_14 : decode cX4_takeOut 14 = .ok (.bastore, 1) := by decide +kernel
theorem dX4_takeOut_15 : decode cX4_takeOut 15 = .ok (.return_, 1) := by decide +kernel
set_option maxRecDepth 20000 in
theorem ggX4_isHere_X4_isNumber : GoodIn wsX4_isHere wsX4_isNumber := goodIn_r _ [6, 7, 8, 9, 10] (by decide +kernel) (by decide +kernel)
set_option maxRecDepth 20000 in
theorem gX4_isHere_X4_isNumber : GoodIn wsX4_isHere (wsV RX4 23 RX4 yX4_isNumber wsX4_isNumber) := goodIn_app (goodIn_of _ (by decide +kernel)) ggX4_isHere_X4_isNumber
theorem dX4_isHere_0 : decode cX4_isHere 0 = .ok (.aload_n 0, 1) := by decide +kernel
theorem dX4_isHere_1 : decode cX4_isHere 1 = .ok (.iload_n 1, 1) := by decide +kernel
theorem dX4_isHere_2 : decode cX4_isHere 2 = .ok (.invokevirtual 23, 3) := by decide +kernel
theorem dX4_isHere_5 : decode cX4_isHere 5 = .ok (.ifCond .eq 16, 3) := by decide +kernel
theorem dX4_isHere_8 : decode cX4_isHere 8 = .ok (.aload_n 0, 1) := by decide +kernel
theorem dX4_isHere_9 : decode cX4_isHere 9 = .ok (.getfield 15, 3) := by decide +kernel
theorem dX4_isHere_12 : decode cX4_isHere 12 = .ok (.iload_n 1, 1) := by decide +kernel
theorem dX4_isHere_13 : decode cX4_isHere 13 = .ok (.baload, 1) := by decide +kernel
theorem dX4_isHere_14 : decode cX4_isHere 14 = .ok (.ifCond .ne 7, 3) := by decide +kernel
theorem dX4_isHere_17 : decode cX4_isHere 17 = .ok (.iconst 1, 1) := by decide +kernel
theorem dX4_isHere_18 : decode cX4_isHere 18 = .ok (.goto 4, 3) := by decide +kernel
theorem dX4_isHere_21 : decode cX4_isHere 21 = .ok (.iconst 0, 1) := by decide +kernel
theorem dX4_isHere_22 : decode cX4_isHere 22 = .ok (.ireturn, 1) := by decide +kernel
set_option maxRecDepth 20000 in
theorem ggX4_placeOf_X4_isNumber : GoodIn wsX4_placeOf wsX4_isNumber := goodIn_r _ [6, 7, 8, 9, 10] (by decide +kernel) (by decide +kernel)
set_option maxRecDepth 20000 in
theorem gX4_placeOf_X4_isNumber : GoodIn wsX4_placeOf (wsV RX4 23 RX4 yX4_isNumber wsX4_isNumber) := goodIn_app (goodIn_of _ (by decide +kernel)) ggX4_placeOf_X4_isNumber
theorem dX4_placeOf_0 : decode cX4_placeOf 0 = .ok (.aload_n 0, 1) := by decide +kernel
theorem dX4_placeOf_1 : decode cX4_placeOf 1 = .ok (.iload_n 1, 1) := by decide +kernel
theorem dX4_placeOf_2 : decode cX4_placeOf 2 = .ok (.invokevirtual 23, 3) := by decide +kernel
theorem dX4_placeOf_5 : decode cX4_placeOf 5 = .ok (.ifCond .eq 12, 3) := by decide +kernel
theorem dX4_placeOf_8 : decode cX4_placeOf 8 = .ok (.aload_n 0, 1) := by decide +kernel
theorem dX4_placeOf_9 : decode cX4_placeOf 9 = .ok (.getfield 9, 3) := by decide +kernel
theorem dX4_placeOf_12 : decode cX4_placeOf 12 = .ok (.iload_n 1, 1) := by decide +kernel
theorem dX4_placeOf_13 : decode cX4_placeOf 13 = .ok (.iaload, 1) := by decide +kernel
theorem dX4_placeOf_14 : decode cX4_placeOf 14 = .ok (.goto 4, 3) := by decide +kernel
theorem dX4_placeOf_17 : decode cX4_placeOf 17 = .ok (.iconst (-1), 1) := by decide +kernel
theorem dX4_placeOf_18 : decode cX4_placeOf 18 = .ok (.ireturn, 1) := by decide +kernel
set_option maxRecDepth 20000 in
theorem ggX4_manyHere_X4_isHere : GoodIn wsX4_manyHere wsX4_isHere := goodIn_r _ [6, 7, 8, 9, 10, 5, 11, 1, 12, 13, 14] (by decide +kernel) (by decide +kernel)
set_option maxRecDepth 20000 in
theorem gX4_manyHere_X4_isHere : GoodIn wsX4_manyHere (wsV RX4 27 RX4 yX4_isHere wsX4_isHere) := goodIn_app (goodIn_of _ (by decide +kernel)) ggX4_manyHere_X4_isHere
theorem dX4_manyHere_0 : decode cX4_manyHere 0 = .ok (.iconst 0, 1) := by decide +kernel
theorem dX4_manyHere_1 : decode cX4_manyHere 1 = .ok (.istore_n 1, 1) := by decide +kernel
theorem dX4_manyHere_2 : decode cX4_manyHere 2 = .ok (.iconst 0, 1) := by decide +kernel
theorem dX4_manyHere_3 : decode cX4_manyHere 3 = .ok (.istore_n 2, 1) := by decide +kernel
theorem dX4_manyHere_4 : decode cX4_manyHere 4 = .ok (.iload_n 2, 1) := by decide +kernel
theorem dX4_manyHere_5 : decode cX4_manyHere 5 = .ok (.aload_n 0, 1) := by decide +kernel
theorem dX4_manyHere_6 : decode cX4_manyHere 6 = .ok (.getfield 19, 3) := by decide +kernel
theorem dX4_manyHere_9 : decode cX4_manyHere 9 = .ok (.if_icmp .ge 20, 3) := by decide +kernel
theorem dX4_manyHere_12 : decode cX4_manyHere 12 = .ok (.aload_n 0, 1) := by decide +kernel
theorem dX4_manyHere_13 : decode cX4_manyHere 13 = .ok (.iload_n 2, 1) := by decide +kernel
theorem dX4_manyHere_14 : decode cX4_manyHere 14 = .ok (.invokevirtual 27, 3) := by decide +kernel
theorem dX4_manyHere_17 : decode cX4_manyHere 17 = .ok (.ifCond .eq 6, 3) := by decide +kernel
theorem dX4_manyHere_20 : decode cX4_manyHere 20 = .ok (.iinc 1 1, 3) := by decide +kernel
theorem dX4_manyHere_23 : decode cX4_manyHere 23 = .ok (.iinc 2 1, 3) := by decide +kernel
theorem dX4_manyHere_26 : decode cX4_manyHere 26 = .ok (.goto (-22), 3) := by decide +kernel
theorem dX4_manyHere_29 : decode cX4_manyHere 29 = .ok (.iload_n 1, 1) := by decide +kernel
theorem dX4_manyHere_30 : decode cX4_manyHere 30 = .ok (.ireturn, 1) := by decide +kernel
set_option maxRecDepth 20000 in
theorem ggX4_sizesHere_X4_isHere : GoodIn wsX4_sizesHere wsX4_isHere := goodIn_r _ [6, 7, 8, 9, 10, 5, 11, 1, 18, 19, 20] (by decide +kernel) (by decide +kernel)
set_option maxRecDepth 20000 in
theorem gX4_sizesHere_X4_isHere : GoodIn wsX4_sizesHere (wsV RX4 27 RX4 yX4_isHere wsX4_isHere) := goodIn_app (goodIn_of _ (by decide +kernel)) ggX4_sizesHere_X4_isHere
set_option maxRecDepth 20000 in
theorem ggX4_sizesHere_X0_carpSize : GoodIn wsX4_sizesHere wsX0_carpSize := goodIn_r _ [16, 17, 21, 22, 23, 24] (by decide +kernel) (by decide +kernel)
set_option maxRecDepth 20000 in
theorem gX4_sizesHere_X0_carpSize : GoodIn wsX4_sizesHere (wsV RX4 30 RX0 yX0_carpSize wsX0_carpSize) := goodIn_app (goodIn_of _ (by decide +kernel)) ggX4_sizesHere_X0_carpSize
theorem dX4_sizesHere_0 : decode cX4_sizesHere 0 = .ok (.iconst 0, 1) := by decide +kernel
theorem dX4_sizesHere_1 : decode cX4_sizesHere 1 = .ok (.istore_n 2, 1) := by decide +kernel
theorem dX4_sizesHere_2 : decode cX4_sizesHere 2 = .ok (.iconst 0, 1) := by decide +kernel
theorem dX4_sizesHere_3 : decode cX4_sizesHere 3 = .ok (.istore_n 3, 1) := by decide +kernel
theorem dX4_sizesHere_4 : decode cX4_sizesHere 4 = .ok (.iload_n 3, 1) := by decide +kernel
theorem dX4_sizesHere_5 : decode cX4_sizesHere 5 = .ok (.aload_n 0, 1) := by decide +kernel
theorem dX4_sizesHere_6 : decode cX4_sizesHere 6 = .ok (.getfield 19, 3) := by decide +kernel
theorem dX4_sizesHere_9 : decode cX4_sizesHere 9 = .ok (.if_icmp .ge 25, 3) := by decide +kernel
theorem dX4_sizesHere_12 : decode cX4_sizesHere 12 = .ok (.aload_n 0, 1) := by decide +kernel
theorem dX4_sizesHere_13 : decode cX4_sizesHere 13 = .ok (.iload_n 3, 1) := by decide +kernel
theorem dX4_sizesHere_14 : decode cX4_sizesHere 14 = .ok (.invokevirtual 27, 3) := by decide +kernel
theorem dX4_sizesHere_17 : decode cX4_sizesHere 17 = .ok (.ifCond .eq 11, 3) := by decide +kernel
theorem dX4_sizesHere_20 : decode cX4_sizesHere 20 = .ok (.iload_n 2, 1) := by decide +kernel
theorem dX4_sizesHere_21 : decode cX4_sizesHere 21 = .ok (.aload_n 1, 1) := by decide +kernel
theorem dX4_sizesHere_22 : decode cX4_sizesHere 22 = .ok (.iload_n 3, 1) := by decide +kernel
theorem dX4_sizesHere_23 : decode cX4_sizesHere 23 = .ok (.invokevirtual 30, 3) := by decide +kernel
theorem dX4_sizesHere_26 : decode cX4_sizesHere 26 = .ok (.iadd, 1) := by decide +kernel
theorem dX4_sizesHere_27 : decode cX4_sizesHere 27 = .ok (.istore_n 2, 1) := by decide +kernel
theorem dX4_sizesHere_28 : decode cX4_sizesHere 28 = .ok (.iinc 3 1, 3) := by decide +kernel
theorem dX4_sizesHere_31 : decode cX4_sizesHere 31 = .ok (.goto (-27), 3) := by decide +kernel
theorem dX4_sizesHere_34 : decode cX4_sizesHere 34 = .ok (.iload_n 2, 1) := by decide +kernel
theorem dX4_sizesHere_35 : decode cX4_sizesHere 35 = .ok (.ireturn, 1) := by decide +kernel
set_option maxRecDepth 20000 in
theorem ggX4_sizesIn_X0_carpSize : GoodIn wsX4_sizesIn wsX0_carpSize := goodIn_r _ [8, 9, 13, 14, 15, 16] (by decide +kernel) (by decide +kernel)
set_option maxRecDepth 20000 in
theorem gX4_sizesIn_X0_carpSize : GoodIn wsX4_sizesIn (wsV RX4 30 RX0 yX0_carpSize wsX0_carpSize) := goodIn_app (goodIn_of _ (by decide +kernel)) ggX4_sizesIn_X0_carpSize
theorem dX4_sizesIn_0 : decode cX4_sizesIn 0 = .ok (.iconst 0, 1) := by decide +kernel
theorem dX4_sizesIn_1 : decode cX4_sizesIn 1 = .ok (.istore_n 3, 1) := by decide +kernel
theorem dX4_sizesIn_2 : decode cX4_sizesIn 2 = .ok (.iconst 0, 1) := by decide +kernel
theorem dX4_sizesIn_3 : decode cX4_sizesIn 3 = .ok (.istore 4, 2) := by decide +kernel
theorem dX4_sizesIn_5 : decode cX4_sizesIn 5 = .ok (.iload 4, 2) := by decide +kernel
theorem dX4_sizesIn_7 : decode cX4_sizesIn 7 = .ok (.aload_n 0, 1) := by decide +kernel
theorem dX4_sizesIn_8 : decode cX4_sizesIn 8 = .ok (.getfield 19, 3) := by decide +kernel
theorem dX4_sizesIn_11 : decode cX4_sizesIn 11 = .ok (.if_icmp .ge 46, 3) := by decide +kernel
theorem dX4_sizesIn_14 : decode cX4_sizesIn 14 = .ok (.iload 4, 2) := by decide +kernel
theorem dX4_sizesIn_16 : decode cX4_sizesIn 16 = .ok (.bipush 30, 2) := by decide +kernel
theorem dX4_sizesIn_18 : decode cX4_sizesIn 18 = .ok (.if_icmp .ge 39, 3) := by decide +kernel
theorem dX4_sizesIn_21 : decode cX4_sizesIn 21 = .ok (.aload_n 0, 1) := by decide +kernel
theorem dX4_sizesIn_22 : decode cX4_sizesIn 22 = .ok (.getfield 9, 3) := by decide +kernel
theorem dX4_sizesIn_25 : decode cX4_sizesIn 25 = .ok (.iload 4, 2) := by decide +kernel
theorem dX4_sizesIn_27 : decode cX4_sizesIn 27 = .ok (.iaload, 1) := by decide +kernel
theorem dX4_sizesIn_28 : decode cX4_sizesIn 28 = .ok (.iload_n 1, 1) := by decide +kernel
theorem dX4_sizesIn_29 : decode cX4_sizesIn 29 = .ok (.if_icmp .ne 22, 3) := by decide +kernel
theorem dX4_sizesIn_32 : decode cX4_sizesIn 32 = .ok (.aload_n 0, 1) := by decide +kernel
theorem dX4_sizesIn_33 : decode cX4_sizesIn 33 = .ok (.getfield 15, 3) := by decide +kernel
theorem dX4_sizesIn_36 : decode cX4_sizesIn 36 = .ok (.iload 4, 2) := by decide +kernel
theorem dX4_sizesIn_38 : decode cX4_sizesIn 38 = .ok (.baload, 1) := by decide +kernel
theorem dX4_sizesIn_39 : decode cX4_sizesIn 39 = .ok (.ifCond .ne 12, 3) := by decide +kernel
theorem dX4_sizesIn_42 : decode cX4_sizesIn 42 = .ok (.iload_n 3, 1) := by decide +kernel
theorem dX4_sizesIn_43 : decode cX4_sizesIn 43 = .ok (.aload_n 2, 1) := by decide +kernel
theorem dX4_sizesIn_44 : decode cX4_sizesIn 44 = .ok (.iload 4, 2) := by decide +kernel
theorem dX4_sizesIn_46 : decode cX4_sizesIn 46 = .ok (.invokevirtual 30, 3) := by decide +kernel
theorem dX4_sizesIn_49 : decode cX4_sizesIn 49 = .ok (.iadd, 1) := by decide +kernel
theorem dX4_sizesIn_50 : decode cX4_sizesIn 50 = .ok (.istore_n 3, 1) := by decide +kernel
theorem dX4_sizesIn_51 : decode cX4_sizesIn 51 = .ok (.iinc 4 1, 3) := by decide +kernel
theorem dX4_sizesIn_54 : decode cX4_sizesIn 54 = .ok (.goto (-49), 3) := by decide +kernel
theorem dX4_sizesIn_57 : decode cX4_sizesIn 57 = .ok (.iload_n 3, 1) := by decide +kernel
theorem dX4_sizesIn_58 : decode cX4_sizesIn 58 = .ok (.ireturn, 1) := by decide +kernel
theorem dX5_init_0 : decode cX5_init 0 = .ok (.aload_n 0, 1) := by decide +kernel
theorem dX5_init_1 : decode cX5_init 1 = .ok (.invokespecial 1, 3) := by decide +kernel
theorem dX5_init_4 : decode cX5_init 4 = .ok (.return_, 1) := by decide +kernel
theorem dX5_begin_0 : decode cX5_begin 0 = .ok (.aload_n 0, 1) := by decide +kernel
theorem dX5_begin_1 : decode cX5_begin 1 = .ok (.iconst 0, 1) := by decide +kernel
theorem dX5_begin_2 : decode cX5_begin 2 = .ok (.putfield 7, 3) := by decide +kernel
theorem dX5_begin_5 : decode cX5_begin 5 = .ok (.aload_n 0, 1) := by decide +kernel
theorem dX5_begin_6 : decode cX5_begin 6 = .ok (.iconst 0, 1) := by decide +kernel
theorem dX5_begin_7 : decode cX5_begin 7 = .ok (.putfield 13, 3) := by decide +kernel
theorem dX5_begin_10 : decode cX5_begin 10 = .ok (.aload_n 0, 1) := by decide +kernel
theorem dX5_begin_11 : decode cX5_begin 11 = .ok (.iconst 0, 1) := by decide +kernel
theorem dX5_begin_12 : decode cX5_begin 12 = .ok (.putfield 16, 3) := by decide +kernel
theorem dX5_begin_15 : decode cX5_begin 15 = .ok (.aload_n 0, 1) := by decide +kernel
theorem dX5_begin_16 : decode cX5_begin 16 = .ok (.iconst 0, 1) := by decide +kernel
theorem dX5_begin_17 : decode cX5_begin 17 = .ok (.putfield 19, 3) := by decide +kernel
theorem dX5_begin_20 : decode cX5_begin 20 = .ok (.aload_n 0, 1) := by decide +kernel
theorem dX5_begin_21 : decode cX5_begin 21 = .ok (.iconst 0, 1) := by decide +kernel
theorem dX5_begin_22 : decode cX5_begin 22 = .ok (.putfield 22, 3) := by decide +kernel
theorem dX5_begin_25 : decode cX5_begin 25 = .ok (.return_, 1) := by decide +kernel
theorem dX5_addRock_0 : decode cX5_addRock 0 = .ok (.iconst 1, 1) := by decide +kernel
theorem dX5_addRock_1 : decode cX5_addRock 1 = .ok (.iload_n 1, 1) := by decide +kernel
theorem dX5_addRock_2 : decode cX5_addRock 2 = .ok (.ishl, 1) := by decide +kernel
theorem dX5_addRock_3 : decode cX5_addRock 3 = .ok (.istore_n 3, 1) := by decide +kernel
theorem dX5_addRock_4 : decode cX5_addRock 4 = .ok (.aload_n 0, 1) := by decide +kernel
theorem dX5_addRock_5 : decode cX5_addRock 5 = .ok (.dup, 1) := by decide +kernel
theorem dX5_addRock_6 : decode cX5_addRock 6 = .ok (.getfield 13, 3) := by decide +kernel
theorem dX5_addRock_9 : decode cX5_addRock 9 = .ok (.iconst 1, 1) := by decide +kernel
theorem dX5_addRock_10 : decode cX5_addRock 10 = .ok (.iadd, 1) := by decide +kernel
theorem dX5_addRock_11 : decode cX5_addRock 11 = .ok (.putfield 13, 3) := by decide +kernel
theorem dX5_addRock_14 : decode cX5_addRock 14 = .ok (.aload_n 0, 1) := by decide +kernel
theorem dX5_addRock_15 : decode cX5_addRock 15 = .ok (.dup, 1) := by decide +kernel
theorem dX5_addRock_16 : decode cX5_addRock 16 = .ok (.getfield 19, 3) := by decide +kernel
theorem dX5_addRock_19 : decode cX5_addRock 19 = .ok (.iload_n 2, 1) := by decide +kernel
theorem dX5_addRock_20 : decode cX5_addRock 20 = .ok (.iadd, 1) := by decide +kernel
theorem dX5_addRock_21 : decode cX5_addRock 21 = .ok (.putfield 19, 3) := by decide +kernel
theorem dX5_addRock_24 : decode cX5_addRock 24 = .ok (.aload_n 0, 1) := by decide +kernel
theorem dX5_addRock_25 : decode cX5_addRock 25 = .ok (.getfield 22, 3) := by decide +kernel
theorem dX5_addRock_28 : decode cX5_addRock 28 = .ok (.iload_n 3, 1) := by decide +kernel
theorem dX5_addRock_29 : decode cX5_addRock 29 = .ok (.iand, 1) := by decide +kernel
theorem dX5_addRock_30 : decode cX5_addRock 30 = .ok (.ifCond .ne 13, 3) := by decide +kernel
theorem dX5_addRock_33 : decode cX5_addRock 33 = .ok (.aload_n 0, 1) := by decide +kernel
theorem dX5_addRock_34 : decode cX5_addRock 34 = .ok (.dup, 1) := by decide +kernel
theorem dX5_addRock_35 : decode cX5_addRock 35 = .ok (.getfield 19, 3) := by decide +kernel
theorem dX5_addRock_38 : decode cX5_addRock 38 = .ok (.iconst 4, 1) := by decide +kernel
theorem dX5_addRock_39 : decode cX5_addRock 39 = .ok (.iadd, 1) := by decide +kernel
theorem dX5_addRock_40 : decode cX5_addRock 40 = .ok (.putfield 19, 3) := by decide +kernel
theorem dX5_addRock_43 : decode cX5_addRock 43 = .ok (.aload_n 0, 1) := by decide +kernel
theorem dX5_addRock_44 : decode cX5_addRock 44 = .ok (.dup, 1) := by decide +kernel
theorem dX5_addRock_45 : decode cX5_addRock 45 = .ok (.getfield 22, 3) := by decide +kernel
theorem dX5_addRock_48 : decode cX5_addRock 48 = .ok (.iload_n 3, 1) := by decide +kernel
theorem dX5_addRock_49 : decode cX5_addRock 49 = .ok (.ior, 1) := by decide +kernel
theorem dX5_addRock_50 : decode cX5_addRock 50 = .ok (.putfield 22, 3) := by decide +kernel
theorem dX5_addRock_53 : decode cX5_addRock 53 = .ok (.return_, 1) := by decide +kernel
theorem dX5_addPondCell_0 : decode cX5_addPondCell 0 = .ok (.aload_n 0, 1) := by decide +kernel
theorem dX5_addPondCell_1 : decode cX5_addPondCell 1 = .ok (.dup, 1) := by decide +kernel
theorem dX5_addPondCell_2 : decode cX5_addPondCell 2 = .ok (.getfield 16, 3) := by decide +kernel
theorem dX5_addPondCell_5 : decode cX5_addPondCell 5 = .ok (.iconst 1, 1) := by decide +kernel
theorem dX5_addPondCell_6 : decode cX5_addPondCell 6 = .ok (.iadd, 1) := by decide +kernel
theorem dX5_addPondCell_7 : decode cX5_addPondCell 7 = .ok (.putfield 16, 3) := by decide +kernel
theorem dX5_addPondCell_10 : decode cX5_addPondCell 10 = .ok (.aload_n 0, 1) := by decide +kernel
theorem dX5_addPondCell_11 : decode cX5_addPondCell 11 = .ok (.dup, 1) := by decide +kernel
theorem dX5_addPondCell_12 : decode cX5_addPondCell 12 = .ok (.getfield 19, 3) := by decide +kernel
theorem dX5_addPondCell_15 : decode cX5_addPondCell 15 = .ok (.iconst 3, 1) := by decide +kernel
theorem dX5_addPondCell_16 : decode cX5_addPondCell 16 = .ok (.iload_n 1, 1) := by decide +kernel
theorem dX5_addPondCell_17 : decode cX5_addPondCell 17 = .ok (.bipush 10, 2) := by decide +kernel
theorem dX5_addPondCell_19 : decode cX5_addPondCell 19 = .ok (.idiv, 1) := by decide +kernel
theorem dX5_addPondCell_20 : decode cX5_addPondCell 20 = .ok (.iadd, 1) := by decide +kernel
theorem dX5_addPondCell_21 : decode cX5_addPondCell 21 = .ok (.iadd, 1) := by decide +kernel
theorem dX5_addPondCell_22 : decode cX5_addPondCell 22 = .ok (.putfield 19, 3) := by decide +kernel
theorem dX5_addPondCell_25 : decode cX5_addPondCell 25 = .ok (.return_, 1) := by decide +kernel
theorem dJ9_abs_0f7a4_0 : decode cJ9_abs_0f7a4 0 = .ok (.iload_n 0, 1) := by decide +kernel
theorem dJ9_abs_0f7a4_1 : decode cJ9_abs_0f7a4 1 = .ok (.ifCond .ge 8, 3) := by decide +kernel
theorem dJ9_abs_0f7a4_4 : decode cJ9_abs_0f7a4 4 = .ok (.iload_n 0, 1) := by decide +kernel
theorem dJ9_abs_0f7a4_5 : decode cJ9_abs_0f7a4 5 = .ok (.ineg, 1) := by decide +kernel
theorem dJ9_abs_0f7a4_6 : decode cJ9_abs_0f7a4 6 = .ok (.goto 4, 3) := by decide +kernel
theorem dJ9_abs_0f7a4_9 : decode cJ9_abs_0f7a4 9 = .ok (.iload_n 0, 1) := by decide +kernel
theorem dJ9_abs_0f7a4_10 : decode cJ9_abs_0f7a4 10 = .ok (.ireturn, 1) := by decide +kernel
theorem dJ9_max_7cf53_0 : decode cJ9_max_7cf53 0 = .ok (.iload_n 0, 1) := by decide +kernel
theorem dJ9_max_7cf53_1 : decode cJ9_max_7cf53 1 = .ok (.iload_n 1, 1) := by decide +kernel
theorem dJ9_max_7cf53_2 : decode cJ9_max_7cf53 2 = .ok (.if_icmp .lt 7, 3) := by decide +kernel
theorem dJ9_max_7cf53_5 : decode cJ9_max_7cf53 5 = .ok (.iload_n 0, 1) := by decide +kernel
theorem dJ9_max_7cf53_6 : decode cJ9_max_7cf53 6 = .ok (.goto 4, 3) := by decide +kernel
theorem dJ9_max_7cf53_9 : decode cJ9_max_7cf53 9 = .ok (.iload_n 1, 1) := by decide +kernel
theorem dJ9_max_7cf53_10 : decode cJ9_max_7cf53 10 = .ok (.ireturn, 1) := by decide +kernel
theorem dJ9_min_7cf53_0 : decode cJ9_min_7cf53 0 = .ok (.iload_n 0, 1) := by decide +kernel
theorem dJ9_min_7cf53_1 : decode cJ9_min_7cf53 1 = .ok (.iload_n 1, 1) := by decide +kernel
theorem dJ9_min_7cf53_2 : decode cJ9_min_7cf53 2 = .ok (.if_icmp .gt 7, 3) := by decide +kernel
theorem dJ9_min_7cf53_5 : decode cJ9_min_7cf53 5 = .ok (.iload_n 0, 1) := by decide +kernel
theorem dJ9_min_7cf53_6 : decode cJ9_min_7cf53 6 = .ok (.goto 4, 3) := by decide +kernel
theorem dJ9_min_7cf53_9 : decode cJ9_min_7cf53 9 = .ok (.iload_n 1, 1) := by decide +kernel
theorem dJ9_min_7cf53_10 : decode cJ9_min_7cf53 10 = .ok (.ireturn, 1) := by decide +kernel

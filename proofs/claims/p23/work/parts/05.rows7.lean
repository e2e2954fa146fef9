theorem dX7_init_0 : decode cX7_init 0 = .ok (.aload_n 0, 1) := by decide +kernel
theorem dX7_init_1 : decode cX7_init 1 = .ok (.invokespecial 1, 3) := by decide +kernel
theorem dX7_init_4 : decode cX7_init 4 = .ok (.aload_n 0, 1) := by decide +kernel
theorem dX7_init_5 : decode cX7_init 5 = .ok (.bipush 100, 2) := by decide +kernel
theorem dX7_init_7 : decode cX7_init 7 = .ok (.putfield 7, 3) := by decide +kernel
theorem dX7_init_10 : decode cX7_init 10 = .ok (.aload_n 0, 1) := by decide +kernel
theorem dX7_init_11 : decode cX7_init 11 = .ok (.bipush 7, 2) := by decide +kernel
theorem dX7_init_13 : decode cX7_init 13 = .ok (.bipush 10, 2) := by decide +kernel
theorem dX7_init_15 : decode cX7_init 15 = .ok (.iconst 3, 1) := by decide +kernel
theorem dX7_init_16 : decode cX7_init 16 = .ok (.multianewarray 13 3, 4) := by decide +kernel
theorem dX7_init_20 : decode cX7_init 20 = .ok (.putfield 15, 3) := by decide +kernel
theorem dX7_init_23 : decode cX7_init 23 = .ok (.aload_n 0, 1) := by decide +kernel
theorem dX7_init_24 : decode cX7_init 24 = .ok (.iconst 0, 1) := by decide +kernel
theorem dX7_init_25 : decode cX7_init 25 = .ok (.anewarray 18, 3) := by decide +kernel
theorem dX7_init_28 : decode cX7_init 28 = .ok (.putfield 20, 3) := by decide +kernel
theorem dX7_init_31 : decode cX7_init 31 = .ok (.aload_n 0, 1) := by decide +kernel
theorem dX7_init_32 : decode cX7_init 32 = .ok (.iconst 0, 1) := by decide +kernel
theorem dX7_init_33 : decode cX7_init 33 = .ok (.anewarray 18, 3) := by decide +kernel
theorem dX7_init_36 : decode cX7_init 36 = .ok (.putfield 24, 3) := by decide +kernel
theorem dX7_init_39 : decode cX7_init 39 = .ok (.aload_n 0, 1) := by decide +kernel
theorem dX7_init_40 : decode cX7_init 40 = .ok (.iconst 0, 1) := by decide +kernel
theorem dX7_init_41 : decode cX7_init 41 = .ok (.anewarray 18, 3) := by decide +kernel
theorem dX7_init_44 : decode cX7_init 44 = .ok (.putfield 27, 3) := by decide +kernel
theorem dX7_init_47 : decode cX7_init 47 = .ok (.return_, 1) := by decide +kernel
theorem dX7_more_0 : decode cX7_more 0 = .ok (.aload_n 0, 1) := by decide +kernel
theorem dX7_more_1 : decode cX7_more 1 = .ok (.arraylength, 1) := by decide +kernel
theorem dX7_more_2 : decode cX7_more 2 = .ok (.iconst 1, 1) := by decide +kernel
theorem dX7_more_3 : decode cX7_more 3 = .ok (.iadd, 1) := by decide +kernel
theorem dX7_more_4 : decode cX7_more 4 = .ok (.anewarray 18, 3) := by decide +kernel
theorem dX7_more_7 : decode cX7_more 7 = .ok (.astore_n 2, 1) := by decide +kernel
theorem dX7_more_8 : decode cX7_more 8 = .ok (.iconst 0, 1) := by decide +kernel
theorem dX7_more_9 : decode cX7_more 9 = .ok (.istore_n 3, 1) := by decide +kernel
theorem dX7_more_10 : decode cX7_more 10 = .ok (.iload_n 3, 1) := by decide +kernel
theorem dX7_more_11 : decode cX7_more 11 = .ok (.aload_n 0, 1) := by decide +kernel
theorem dX7_more_12 : decode cX7_more 12 = .ok (.arraylength, 1) := by decide +kernel
theorem dX7_more_13 : decode cX7_more 13 = .ok (.if_icmp .ge 15, 3) := by decide +kernel
theorem dX7_more_16 : decode cX7_more 16 = .ok (.aload_n 2, 1) := by decide +kernel
theorem dX7_more_17 : decode cX7_more 17 = .ok (.iload_n 3, 1) := by decide +kernel
theorem dX7_more_18 : decode cX7_more 18 = .ok (.aload_n 0, 1) := by decide +kernel
theorem dX7_more_19 : decode cX7_more 19 = .ok (.iload_n 3, 1) := by decide +kernel
theorem dX7_more_20 : decode cX7_more 20 = .ok (.aaload, 1) := by decide +kernel
theorem dX7_more_21 : decode cX7_more 21 = .ok (.aastore, 1) := by decide +kernel
theorem dX7_more_22 : decode cX7_more 22 = .ok (.iinc 3 1, 3) := by decide +kernel
theorem dX7_more_25 : decode cX7_more 25 = .ok (.goto (-15), 3) := by decide +kernel
theorem dX7_more_28 : decode cX7_more 28 = .ok (.aload_n 2, 1) := by decide +kernel
theorem dX7_more_29 : decode cX7_more 29 = .ok (.aload_n 0, 1) := by decide +kernel
theorem dX7_more_30 : decode cX7_more 30 = .ok (.arraylength, 1) := by decide +kernel
theorem dX7_more_31 : decode cX7_more 31 = .ok (.aload_n 1, 1) := by decide +kernel
theorem dX7_more_32 : decode cX7_more 32 = .ok (.aastore, 1) := by decide +kernel
theorem dX7_more_33 : decode cX7_more 33 = .ok (.aload_n 2, 1) := by decide +kernel
theorem dX7_more_34 : decode cX7_more 34 = .ok (.areturn, 1) := by decide +kernel
theorem dX7_pond_0 : decode cX7_pond 0 = .ok (.bipush 7, 2) := by decide +kernel
theorem dX7_pond_2 : decode cX7_pond 2 = .ok (.bipush 10, 2) := by decide +kernel
theorem dX7_pond_4 : decode cX7_pond 4 = .ok (.multianewarray 34 2, 4) := by decide +kernel
theorem dX7_pond_8 : decode cX7_pond 8 = .ok (.astore_n 3, 1) := by decide +kernel
theorem dX7_pond_9 : decode cX7_pond 9 = .ok (.aload_n 3, 1) := by decide +kernel
theorem dX7_pond_10 : decode cX7_pond 10 = .ok (.iload_n 2, 1) := by decide +kernel
theorem dX7_pond_11 : decode cX7_pond 11 = .ok (.aaload, 1) := by decide +kernel
theorem dX7_pond_12 : decode cX7_pond 12 = .ok (.iload_n 1, 1) := by decide +kernel
theorem dX7_pond_13 : decode cX7_pond 13 = .ok (.aload_n 0, 1) := by decide +kernel
theorem dX7_pond_14 : decode cX7_pond 14 = .ok (.getfield 15, 3) := by decide +kernel
theorem dX7_pond_17 : decode cX7_pond 17 = .ok (.iload_n 2, 1) := by decide +kernel
theorem dX7_pond_18 : decode cX7_pond 18 = .ok (.aaload, 1) := by decide +kernel
theorem dX7_pond_19 : decode cX7_pond 19 = .ok (.iload_n 1, 1) := by decide +kernel
theorem dX7_pond_20 : decode cX7_pond 20 = .ok (.aaload, 1) := by decide +kernel
theorem dX7_pond_21 : decode cX7_pond 21 = .ok (.iconst 0, 1) := by decide +kernel
theorem dX7_pond_22 : decode cX7_pond 22 = .ok (.iaload, 1) := by decide +kernel
theorem dX7_pond_23 : decode cX7_pond 23 = .ok (.iconst 2, 1) := by decide +kernel
theorem dX7_pond_24 : decode cX7_pond 24 = .ok (.if_icmp .ne 7, 3) := by decide +kernel
theorem dX7_pond_27 : decode cX7_pond 27 = .ok (.iconst 1, 1) := by decide +kernel
theorem dX7_pond_28 : decode cX7_pond 28 = .ok (.goto 4, 3) := by decide +kernel
theorem dX7_pond_31 : decode cX7_pond 31 = .ok (.iconst 0, 1) := by decide +kernel
theorem dX7_pond_32 : decode cX7_pond 32 = .ok (.bastore, 1) := by decide +kernel
theorem dX7_pond_33 : decode cX7_pond 33 = .ok (.aload_n 3, 1) := by decide +kernel
theorem dX7_pond_34 : decode cX7_pond 34 = .ok (.iload_n 2, 1) := by decide +kernel
theorem dX7_pond_35 : decode cX7_pond 35 = .ok (.aaload, 1) := by decide +kernel
theorem dX7_pond_36 : decode cX7_pond 36 = .ok (.iload_n 1, 1) := by decide +kernel
theorem dX7_pond_37 : decode cX7_pond 37 = .ok (.baload, 1) := by decide +kernel
theorem dX7_pond_38 : decode cX7_pond 38 = .ok (.istore 4, 2) := by decide +kernel
theorem dX7_pond_40 : decode cX7_pond 40 = .ok (.iload 4, 2) := by decide +kernel
theorem dX7_pond_42 : decode cX7_pond 42 = .ok (.ifCond .eq 165, 3) := by decide +kernel
theorem dX7_pond_45 : decode cX7_pond 45 = .ok (.iconst 0, 1) := by decide +kernel
theorem dX7_pond_46 : decode cX7_pond 46 = .ok (.istore 4, 2) := by decide +kernel
theorem dX7_pond_48 : decode cX7_pond 48 = .ok (.iconst 0, 1) := by decide +kernel
theorem dX7_pond_49 : decode cX7_pond 49 = .ok (.istore 5, 2) := by decide +kernel
theorem dX7_pond_51 : decode cX7_pond 51 = .ok (.iload 5, 2) := by decide +kernel
theorem dX7_pond_53 : decode cX7_pond 53 = .ok (.bipush 7, 2) := by decide +kernel
theorem dX7_pond_55 : decode cX7_pond 55 = .ok (.if_icmp .ge 149, 3) := by decide +kernel
theorem dX7_pond_58 : decode cX7_pond 58 = .ok (.iconst 0, 1) := by decide +kernel
theorem dX7_pond_59 : decode cX7_pond 59 = .ok (.istore 6, 2) := by decide +kernel
theorem dX7_pond_61 : decode cX7_pond 61 = .ok (.iload 6, 2) := by decide +kernel
theorem dX7_pond_63 : decode cX7_pond 63 = .ok (.bipush 10, 2) := by decide +kernel
theorem dX7_pond_65 : decode cX7_pond 65 = .ok (.if_icmp .ge 133, 3) := by decide +kernel
theorem dX7_pond_68 : decode cX7_pond 68 = .ok (.iload 6, 2) := by decide +kernel
theorem dX7_pond_70 : decode cX7_pond 70 = .ok (.ifCond .le 15, 3) := by decide +kernel
theorem dX7_pond_73 : decode cX7_pond 73 = .ok (.aload_n 3, 1) := by decide +kernel
theorem dX7_pond_74 : decode cX7_pond 74 = .ok (.iload 5, 2) := by decide +kernel
theorem dX7_pond_76 : decode cX7_pond 76 = .ok (.aaload, 1) := by decide +kernel
theorem dX7_pond_77 : decode cX7_pond 77 = .ok (.iload 6, 2) := by decide +kernel
theorem dX7_pond_79 : decode cX7_pond 79 = .ok (.iconst 1, 1) := by decide +kernel
theorem dX7_pond_80 : decode cX7_pond 80 = .ok (.isub, 1) := by decide +kernel
theorem dX7_pond_81 : decode cX7_pond 81 = .ok (.baload, 1) := by decide +kernel
theorem dX7_pond_82 : decode cX7_pond 82 = .ok (.ifCond .ne 58, 3) := by decide +kernel
theorem dX7_pond_85 : decode cX7_pond 85 = .ok (.iload 6, 2) := by decide +kernel
theorem dX7_pond_87 : decode cX7_pond 87 = .ok (.bipush 9, 2) := by decide +kernel
theorem dX7_pond_89 : decode cX7_pond 89 = .ok (.if_icmp .ge 15, 3) := by decide +kernel
theorem dX7_pond_92 : decode cX7_pond 92 = .ok (.aload_n 3, 1) := by decide +kernel
theorem dX7_pond_93 : decode cX7_pond 93 = .ok (.iload 5, 2) := by decide +kernel
theorem dX7_pond_95 : decode cX7_pond 95 = .ok (.aaload, 1) := by decide +kernel
theorem dX7_pond_96 : decode cX7_pond 96 = .ok (.iload 6, 2) := by decide +kernel
theorem dX7_pond_98 : decode cX7_pond 98 = .ok (.iconst 1, 1) := by decide +kernel
theorem dX7_pond_99 : decode cX7_pond 99 = .ok (.iadd, 1) := by decide +kernel
theorem dX7_pond_100 : decode cX7_pond 100 = .ok (.baload, 1) := by decide +kernel
theorem dX7_pond_101 : decode cX7_pond 101 = .ok (.ifCond .ne 39, 3) := by decide +kernel
theorem dX7_pond_104 : decode cX7_pond 104 = .ok (.iload 5, 2) := by decide +kernel
theorem dX7_pond_106 : decode cX7_pond 106 = .ok (.ifCond .le 15, 3) := by decide +kernel
theorem dX7_pond_109 : decode cX7_pond 109 = .ok (.aload_n 3, 1) := by decide +kernel
theorem dX7_pond_110 : decode cX7_pond 110 = .ok (.iload 5, 2) := by decide +kernel
theorem dX7_pond_112 : decode cX7_pond 112 = .ok (.iconst 1, 1) := by decide +kernel
theorem dX7_pond_113 : decode cX7_pond 113 = .ok (.isub, 1) := by decide +kernel
theorem dX7_pond_114 : decode cX7_pond 114 = .ok (.aaload, 1) := by decide +kernel
theorem dX7_pond_115 : decode cX7_pond 115 = .ok (.iload 6, 2) := by decide +kernel
theorem dX7_pond_117 : decode cX7_pond 117 = .ok (.baload, 1) := by decide +kernel
theorem dX7_pond_118 : decode cX7_pond 118 = .ok (.ifCond .ne 22, 3) := by decide +kernel
theorem dX7_pond_121 : decode cX7_pond 121 = .ok (.iload 5, 2) := by decide +kernel
theorem dX7_pond_123 : decode cX7_pond 123 = .ok (.bipush 6, 2) := by decide +kernel
theorem dX7_pond_125 : decode cX7_pond 125 = .ok (.if_icmp .ge 19, 3) := by decide +kernel
theorem dX7_pond_128 : decode cX7_pond 128 = .ok (.aload_n 3, 1) := by decide +kernel
theorem dX7_pond_129 : decode cX7_pond 129 = .ok (.iload 5, 2) := by decide +kernel
theorem dX7_pond_131 : decode cX7_pond 131 = .ok (.iconst 1, 1) := by decide +kernel
theorem dX7_pond_132 : decode cX7_pond 132 = .ok (.iadd, 1) := by decide +kernel
theorem dX7_pond_133 : decode cX7_pond 133 = .ok (.aaload, 1) := by decide +kernel
theorem dX7_pond_134 : decode cX7_pond 134 = .ok (.iload 6, 2) := by decide +kernel
theorem dX7_pond_136 : decode cX7_pond 136 = .ok (.baload, 1) := by decide +kernel
theorem dX7_pond_137 : decode cX7_pond 137 = .ok (.ifCond .eq 7, 3) := by decide +kernel
theorem dX7_pond_140 : decode cX7_pond 140 = .ok (.iconst 1, 1) := by decide +kernel
theorem dX7_pond_141 : decode cX7_pond 141 = .ok (.goto 4, 3) := by decide +kernel
theorem dX7_pond_144 : decode cX7_pond 144 = .ok (.iconst 0, 1) := by decide +kernel
theorem dX7_pond_145 : decode cX7_pond 145 = .ok (.istore 7, 2) := by decide +kernel
theorem dX7_pond_147 : decode cX7_pond 147 = .ok (.aload_n 3, 1) := by decide +kernel
theorem dX7_pond_148 : decode cX7_pond 148 = .ok (.iload 5, 2) := by decide +kernel
theorem dX7_pond_150 : decode cX7_pond 150 = .ok (.aaload, 1) := by decide +kernel
theorem dX7_pond_151 : decode cX7_pond 151 = .ok (.iload 6, 2) := by decide +kernel
theorem dX7_pond_153 : decode cX7_pond 153 = .ok (.baload, 1) := by decide +kernel
theorem dX7_pond_154 : decode cX7_pond 154 = .ok (.ifCond .ne 38, 3) := by decide +kernel
theorem dX7_pond_157 : decode cX7_pond 157 = .ok (.aload_n 0, 1) := by decide +kernel
theorem dX7_pond_158 : decode cX7_pond 158 = .ok (.getfield 15, 3) := by decide +kernel
theorem dX7_pond_161 : decode cX7_pond 161 = .ok (.iload 5, 2) := by decide +kernel
theorem dX7_pond_163 : decode cX7_pond 163 = .ok (.aaload, 1) := by decide +kernel
theorem dX7_pond_164 : decode cX7_pond 164 = .ok (.iload 6, 2) := by decide +kernel
theorem dX7_pond_166 : decode cX7_pond 166 = .ok (.aaload, 1) := by decide +kernel
theorem dX7_pond_167 : decode cX7_pond 167 = .ok (.iconst 0, 1) := by decide +kernel
theorem dX7_pond_168 : decode cX7_pond 168 = .ok (.iaload, 1) := by decide +kernel
theorem dX7_pond_169 : decode cX7_pond 169 = .ok (.iconst 2, 1) := by decide +kernel
theorem dX7_pond_170 : decode cX7_pond 170 = .ok (.if_icmp .ne 22, 3) := by decide +kernel
theorem dX7_pond_173 : decode cX7_pond 173 = .ok (.iload 7, 2) := by decide +kernel
theorem dX7_pond_175 : decode cX7_pond 175 = .ok (.ifCond .ne 6, 3) := by decide +kernel
theorem dX7_pond_178 : decode cX7_pond 178 = .ok (.goto 14, 3) := by decide +kernel
theorem dX7_pond_181 : decode cX7_pond 181 = .ok (.aload_n 3, 1) := by decide +kernel
theorem dX7_pond_182 : decode cX7_pond 182 = .ok (.iload 5, 2) := by decide +kernel
theorem dX7_pond_184 : decode cX7_pond 184 = .ok (.aaload, 1) := by decide +kernel
theorem dX7_pond_185 : decode cX7_pond 185 = .ok (.iload 6, 2) := by decide +kernel
theorem dX7_pond_187 : decode cX7_pond 187 = .ok (.iconst 1, 1) := by decide +kernel
theorem dX7_pond_188 : decode cX7_pond 188 = .ok (.bastore, 1) := by decide +kernel
theorem dX7_pond_189 : decode cX7_pond 189 = .ok (.iconst 1, 1) := by decide +kernel
theorem dX7_pond_190 : decode cX7_pond 190 = .ok (.istore 4, 2) := by decide +kernel
theorem dX7_pond_192 : decode cX7_pond 192 = .ok (.iinc 6 1, 3) := by decide +kernel
theorem dX7_pond_195 : decode cX7_pond 195 = .ok (.goto (-134), 3) := by decide +kernel
theorem dX7_pond_198 : decode cX7_pond 198 = .ok (.iinc 5 1, 3) := by decide +kernel
theorem dX7_pond_201 : decode cX7_pond 201 = .ok (.goto (-150), 3) := by decide +kernel
theorem dX7_pond_204 : decode cX7_pond 204 = .ok (.goto (-164), 3) := by decide +kernel
theorem dX7_pond_207 : decode cX7_pond 207 = .ok (.aload_n 3, 1) := by decide +kernel
theorem dX7_pond_208 : decode cX7_pond 208 = .ok (.areturn, 1) := by decide +kernel
theorem dX7_many_0 : decode cX7_many 0 = .ok (.iconst 0, 1) := by decide +kernel
theorem dX7_many_1 : decode cX7_many 1 = .ok (.istore_n 1, 1) := by decide +kernel
theorem dX7_many_2 : decode cX7_many 2 = .ok (.aload_n 0, 1) := by decide +kernel
theorem dX7_many_3 : decode cX7_many 3 = .ok (.astore_n 2, 1) := by decide +kernel
theorem dX7_many_4 : decode cX7_many 4 = .ok (.aload_n 2, 1) := by decide +kernel
theorem dX7_many_5 : decode cX7_many 5 = .ok (.arraylength, 1) := by decide +kernel
theorem dX7_many_6 : decode cX7_many 6 = .ok (.istore_n 3, 1) := by decide +kernel
theorem dX7_many_7 : decode cX7_many 7 = .ok (.iconst 0, 1) := by decide +kernel
theorem dX7_many_8 : decode cX7_many 8 = .ok (.istore 4, 2) := by decide +kernel
theorem dX7_many_10 : decode cX7_many 10 = .ok (.iload 4, 2) := by decide +kernel
theorem dX7_many_12 : decode cX7_many 12 = .ok (.iload_n 3, 1) := by decide +kernel
theorem dX7_many_13 : decode cX7_many 13 = .ok (.if_icmp .ge 60, 3) := by decide +kernel
theorem dX7_many_16 : decode cX7_many 16 = .ok (.aload_n 2, 1) := by decide +kernel
theorem dX7_many_17 : decode cX7_many 17 = .ok (.iload 4, 2) := by decide +kernel
theorem dX7_many_19 : decode cX7_many 19 = .ok (.aaload, 1) := by decide +kernel
theorem dX7_many_20 : decode cX7_many 20 = .ok (.astore 5, 2) := by decide +kernel
theorem dX7_many_22 : decode cX7_many 22 = .ok (.aload 5, 2) := by decide +kernel
theorem dX7_many_24 : decode cX7_many 24 = .ok (.astore 6, 2) := by decide +kernel
theorem dX7_many_26 : decode cX7_many 26 = .ok (.aload 6, 2) := by decide +kernel
theorem dX7_many_28 : decode cX7_many 28 = .ok (.arraylength, 1) := by decide +kernel
theorem dX7_many_29 : decode cX7_many 29 = .ok (.istore 7, 2) := by decide +kernel
theorem dX7_many_31 : decode cX7_many 31 = .ok (.iconst 0, 1) := by decide +kernel
theorem dX7_many_32 : decode cX7_many 32 = .ok (.istore 8, 2) := by decide +kernel
theorem dX7_many_34 : decode cX7_many 34 = .ok (.iload 8, 2) := by decide +kernel
theorem dX7_many_36 : decode cX7_many 36 = .ok (.iload 7, 2) := by decide +kernel
theorem dX7_many_38 : decode cX7_many 38 = .ok (.if_icmp .ge 29, 3) := by decide +kernel
theorem dX7_many_41 : decode cX7_many 41 = .ok (.aload 6, 2) := by decide +kernel
theorem dX7_many_43 : decode cX7_many 43 = .ok (.iload 8, 2) := by decide +kernel
theorem dX7_many_45 : decode cX7_many 45 = .ok (.baload, 1) := by decide +kernel
theorem dX7_many_46 : decode cX7_many 46 = .ok (.istore 9, 2) := by decide +kernel
theorem dX7_many_48 : decode cX7_many 48 = .ok (.iload_n 1, 1) := by decide +kernel
theorem dX7_many_49 : decode cX7_many 49 = .ok (.iload 9, 2) := by decide +kernel
theorem dX7_many_51 : decode cX7_many 51 = .ok (.ifCond .eq 7, 3) := by decide +kernel
theorem dX7_many_54 : decode cX7_many 54 = .ok (.iconst 1, 1) := by decide +kernel
theorem dX7_many_55 : decode cX7_many 55 = .ok (.goto 4, 3) := by decide +kernel
theorem dX7_many_58 : decode cX7_many 58 = .ok (.iconst 0, 1) := by decide +kernel
theorem dX7_many_59 : decode cX7_many 59 = .ok (.iadd, 1) := by decide +kernel
theorem dX7_many_60 : decode cX7_many 60 = .ok (.istore_n 1, 1) := by decide +kernel
theorem dX7_many_61 : decode cX7_many 61 = .ok (.iinc 8 1, 3) := by decide +kernel
theorem dX7_many_64 : decode cX7_many 64 = .ok (.goto (-30), 3) := by decide +kernel
theorem dX7_many_67 : decode cX7_many 67 = .ok (.iinc 4 1, 3) := by decide +kernel
theorem dX7_many_70 : decode cX7_many 70 = .ok (.goto (-60), 3) := by decide +kernel
theorem dX7_many_73 : decode cX7_many 73 = .ok (.iload_n 1, 1) := by decide +kernel
theorem dX7_many_74 : decode cX7_many 74 = .ok (.ireturn, 1) := by decide +kernel
theorem dX7_carpsIn_0 : decode cX7_carpsIn 0 = .ok (.iconst 0, 1) := by decide +kernel
theorem dX7_carpsIn_1 : decode cX7_carpsIn 1 = .ok (.istore_n 2, 1) := by decide +kernel
theorem dX7_carpsIn_2 : decode cX7_carpsIn 2 = .ok (.aload_n 0, 1) := by decide +kernel
theorem dX7_carpsIn_3 : decode cX7_carpsIn 3 = .ok (.getfield 20, 3) := by decide +kernel
theorem dX7_carpsIn_6 : decode cX7_carpsIn 6 = .ok (.astore_n 3, 1) := by decide +kernel
theorem dX7_carpsIn_7 : decode cX7_carpsIn 7 = .ok (.aload_n 3, 1) := by decide +kernel
theorem dX7_carpsIn_8 : decode cX7_carpsIn 8 = .ok (.arraylength, 1) := by decide +kernel
theorem dX7_carpsIn_9 : decode cX7_carpsIn 9 = .ok (.istore 4, 2) := by decide +kernel
theorem dX7_carpsIn_11 : decode cX7_carpsIn 11 = .ok (.iconst 0, 1) := by decide +kernel
theorem dX7_carpsIn_12 : decode cX7_carpsIn 12 = .ok (.istore 5, 2) := by decide +kernel
theorem dX7_carpsIn_14 : decode cX7_carpsIn 14 = .ok (.iload 5, 2) := by decide +kernel
theorem dX7_carpsIn_16 : decode cX7_carpsIn 16 = .ok (.iload 4, 2) := by decide +kernel
theorem dX7_carpsIn_18 : decode cX7_carpsIn 18 = .ok (.if_icmp .ge 44, 3) := by decide +kernel
theorem dX7_carpsIn_21 : decode cX7_carpsIn 21 = .ok (.aload_n 3, 1) := by decide +kernel
theorem dX7_carpsIn_22 : decode cX7_carpsIn 22 = .ok (.iload 5, 2) := by decide +kernel
theorem dX7_carpsIn_24 : decode cX7_carpsIn 24 = .ok (.aaload, 1) := by decide +kernel
theorem dX7_carpsIn_25 : decode cX7_carpsIn 25 = .ok (.astore 6, 2) := by decide +kernel
theorem dX7_carpsIn_27 : decode cX7_carpsIn 27 = .ok (.iload_n 2, 1) := by decide +kernel
theorem dX7_carpsIn_28 : decode cX7_carpsIn 28 = .ok (.aload 6, 2) := by decide +kernel
theorem dX7_carpsIn_30 : decode cX7_carpsIn 30 = .ok (.iconst 3, 1) := by decide +kernel
theorem dX7_carpsIn_31 : decode cX7_carpsIn 31 = .ok (.iaload, 1) := by decide +kernel
theorem dX7_carpsIn_32 : decode cX7_carpsIn 32 = .ok (.ifCond .ne 21, 3) := by decide +kernel
theorem dX7_carpsIn_35 : decode cX7_carpsIn 35 = .ok (.aload_n 1, 1) := by decide +kernel
theorem dX7_carpsIn_36 : decode cX7_carpsIn 36 = .ok (.aload 6, 2) := by decide +kernel
theorem dX7_carpsIn_38 : decode cX7_carpsIn 38 = .ok (.iconst 1, 1) := by decide +kernel
theorem dX7_carpsIn_39 : decode cX7_carpsIn 39 = .ok (.iaload, 1) := by decide +kernel
theorem dX7_carpsIn_40 : decode cX7_carpsIn 40 = .ok (.aaload, 1) := by decide +kernel
theorem dX7_carpsIn_41 : decode cX7_carpsIn 41 = .ok (.aload 6, 2) := by decide +kernel
theorem dX7_carpsIn_43 : decode cX7_carpsIn 43 = .ok (.iconst 0, 1) := by decide +kernel
theorem dX7_carpsIn_44 : decode cX7_carpsIn 44 = .ok (.iaload, 1) := by decide +kernel
theorem dX7_carpsIn_45 : decode cX7_carpsIn 45 = .ok (.baload, 1) := by decide +kernel
theorem dX7_carpsIn_46 : decode cX7_carpsIn 46 = .ok (.ifCond .eq 7, 3) := by decide +kernel
theorem dX7_carpsIn_49 : decode cX7_carpsIn 49 = .ok (.iconst 1, 1) := by decide +kernel
theorem dX7_carpsIn_50 : decode cX7_carpsIn 50 = .ok (.goto 4, 3) := by decide +kernel
theorem dX7_carpsIn_53 : decode cX7_carpsIn 53 = .ok (.iconst 0, 1) := by decide +kernel
theorem dX7_carpsIn_54 : decode cX7_carpsIn 54 = .ok (.iadd, 1) := by decide +kernel
theorem dX7_carpsIn_55 : decode cX7_carpsIn 55 = .ok (.istore_n 2, 1) := by decide +kernel
theorem dX7_carpsIn_56 : decode cX7_carpsIn 56 = .ok (.iinc 5 1, 3) := by decide +kernel
theorem dX7_carpsIn_59 : decode cX7_carpsIn 59 = .ok (.goto (-45), 3) := by decide +kernel
theorem dX7_carpsIn_62 : decode cX7_carpsIn 62 = .ok (.iload_n 2, 1) := by decide +kernel
theorem dX7_carpsIn_63 : decode cX7_carpsIn 63 = .ok (.ireturn, 1) := by decide +kernel
set_option maxRecDepth 20000 in
theorem ggX7_shows_X7_more : GoodIn wsX7_shows wsX7_more := goodIn_r _ [7, 1] (by decide +kernel) (by decide +kernel)
set_option maxRecDepth 20000 in
theorem gX7_shows_X7_more : GoodIn wsX7_shows (va_wsS RX7 36 yX7_more wsX7_more) := goodIn_app (goodIn_of _ (by decide +kernel)) ggX7_shows_X7_more
theorem dX7_shows_0 : decode cX7_shows 0 = .ok (.iconst 0, 1) := by decide +kernel
theorem dX7_shows_1 : decode cX7_shows 1 = .ok (.anewarray 18, 3) := by decide +kernel
theorem dX7_shows_4 : decode cX7_shows 4 = .ok (.astore_n 2, 1) := by decide +kernel
theorem dX7_shows_5 : decode cX7_shows 5 = .ok (.aload_n 1, 1) := by decide +kernel
theorem dX7_shows_6 : decode cX7_shows 6 = .ok (.iconst 0, 1) := by decide +kernel
theorem dX7_shows_7 : decode cX7_shows 7 = .ok (.iaload, 1) := by decide +kernel
theorem dX7_shows_8 : decode cX7_shows 8 = .ok (.istore_n 3, 1) := by decide +kernel
theorem dX7_shows_9 : decode cX7_shows 9 = .ok (.aload_n 1, 1) := by decide +kernel
theorem dX7_shows_10 : decode cX7_shows 10 = .ok (.iconst 1, 1) := by decide +kernel
theorem dX7_shows_11 : decode cX7_shows 11 = .ok (.iaload, 1) := by decide +kernel
theorem dX7_shows_12 : decode cX7_shows 12 = .ok (.istore 4, 2) := by decide +kernel
theorem dX7_shows_14 : decode cX7_shows 14 = .ok (.iload_n 3, 1) := by decide +kernel
theorem dX7_shows_15 : decode cX7_shows 15 = .ok (.aload_n 1, 1) := by decide +kernel
theorem dX7_shows_16 : decode cX7_shows 16 = .ok (.iconst 2, 1) := by decide +kernel
theorem dX7_shows_17 : decode cX7_shows 17 = .ok (.iaload, 1) := by decide +kernel
theorem dX7_shows_18 : decode cX7_shows 18 = .ok (.iconst 1, 1) := by decide +kernel
theorem dX7_shows_19 : decode cX7_shows 19 = .ok (.if_icmp .ne 7, 3) := by decide +kernel
theorem dX7_shows_22 : decode cX7_shows 22 = .ok (.iconst 1, 1) := by decide +kernel
theorem dX7_shows_23 : decode cX7_shows 23 = .ok (.goto 15, 3) := by decide +kernel
theorem dX7_shows_26 : decode cX7_shows 26 = .ok (.aload_n 1, 1) := by decide +kernel
theorem dX7_shows_27 : decode cX7_shows 27 = .ok (.iconst 2, 1) := by decide +kernel
theorem dX7_shows_28 : decode cX7_shows 28 = .ok (.iaload, 1) := by decide +kernel
theorem dX7_shows_29 : decode cX7_shows 29 = .ok (.iconst 3, 1) := by decide +kernel
theorem dX7_shows_30 : decode cX7_shows 30 = .ok (.if_icmp .ne 7, 3) := by decide +kernel
theorem dX7_shows_33 : decode cX7_shows 33 = .ok (.iconst (-1), 1) := by decide +kernel
theorem dX7_shows_34 : decode cX7_shows 34 = .ok (.goto 4, 3) := by decide +kernel
theorem dX7_shows_37 : decode cX7_shows 37 = .ok (.iconst 0, 1) := by decide +kernel
theorem dX7_shows_38 : decode cX7_shows 38 = .ok (.iadd, 1) := by decide +kernel
theorem dX7_shows_39 : decode cX7_shows 39 = .ok (.istore_n 3, 1) := by decide +kernel
theorem dX7_shows_40 : decode cX7_shows 40 = .ok (.iload 4, 2) := by decide +kernel
theorem dX7_shows_42 : decode cX7_shows 42 = .ok (.aload_n 1, 1) := by decide +kernel
theorem dX7_shows_43 : decode cX7_shows 43 = .ok (.iconst 2, 1) := by decide +kernel
theorem dX7_shows_44 : decode cX7_shows 44 = .ok (.iaload, 1) := by decide +kernel
theorem dX7_shows_45 : decode cX7_shows 45 = .ok (.iconst 2, 1) := by decide +kernel
theorem dX7_shows_46 : decode cX7_shows 46 = .ok (.if_icmp .ne 7, 3) := by decide +kernel
theorem dX7_shows_49 : decode cX7_shows 49 = .ok (.iconst 1, 1) := by decide +kernel
theorem dX7_shows_50 : decode cX7_shows 50 = .ok (.goto 14, 3) := by decide +kernel
theorem dX7_shows_53 : decode cX7_shows 53 = .ok (.aload_n 1, 1) := by decide +kernel
theorem dX7_shows_54 : decode cX7_shows 54 = .ok (.iconst 2, 1) := by decide +kernel
theorem dX7_shows_55 : decode cX7_shows 55 = .ok (.iaload, 1) := by decide +kernel
theorem dX7_shows_56 : decode cX7_shows 56 = .ok (.ifCond .ne 7, 3) := by decide +kernel
theorem dX7_shows_59 : decode cX7_shows 59 = .ok (.iconst (-1), 1) := by decide +kernel
theorem dX7_shows_60 : decode cX7_shows 60 = .ok (.goto 4, 3) := by decide +kernel
theorem dX7_shows_63 : decode cX7_shows 63 = .ok (.iconst 0, 1) := by decide +kernel
theorem dX7_shows_64 : decode cX7_shows 64 = .ok (.iadd, 1) := by decide +kernel
theorem dX7_shows_65 : decode cX7_shows 65 = .ok (.istore 4, 2) := by decide +kernel
theorem dX7_shows_67 : decode cX7_shows 67 = .ok (.iload_n 3, 1) := by decide +kernel
theorem dX7_shows_68 : decode cX7_shows 68 = .ok (.ifCond .lt 36, 3) := by decide +kernel
theorem dX7_shows_71 : decode cX7_shows 71 = .ok (.iload_n 3, 1) := by decide +kernel
theorem dX7_shows_72 : decode cX7_shows 72 = .ok (.bipush 9, 2) := by decide +kernel
theorem dX7_shows_74 : decode cX7_shows 74 = .ok (.if_icmp .gt 30, 3) := by decide +kernel
theorem dX7_shows_77 : decode cX7_shows 77 = .ok (.iload 4, 2) := by decide +kernel
theorem dX7_shows_79 : decode cX7_shows 79 = .ok (.ifCond .lt 25, 3) := by decide +kernel
theorem dX7_shows_82 : decode cX7_shows 82 = .ok (.iload 4, 2) := by decide +kernel
theorem dX7_shows_84 : decode cX7_shows 84 = .ok (.bipush 6, 2) := by decide +kernel
theorem dX7_shows_86 : decode cX7_shows 86 = .ok (.if_icmp .gt 18, 3) := by decide +kernel
theorem dX7_shows_89 : decode cX7_shows 89 = .ok (.aload_n 0, 1) := by decide +kernel
theorem dX7_shows_90 : decode cX7_shows 90 = .ok (.getfield 15, 3) := by decide +kernel
theorem dX7_shows_93 : decode cX7_shows 93 = .ok (.iload 4, 2) := by decide +kernel
theorem dX7_shows_95 : decode cX7_shows 95 = .ok (.aaload, 1) := by decide +kernel
theorem dX7_shows_96 : decode cX7_shows 96 = .ok (.iload_n 3, 1) := by decide +kernel
theorem dX7_shows_97 : decode cX7_shows 97 = .ok (.aaload, 1) := by decide +kernel
theorem dX7_shows_98 : decode cX7_shows 98 = .ok (.iconst 0, 1) := by decide +kernel
theorem dX7_shows_99 : decode cX7_shows 99 = .ok (.iaload, 1) := by decide +kernel
theorem dX7_shows_100 : decode cX7_shows 100 = .ok (.iconst 3, 1) := by decide +kernel
theorem dX7_shows_101 : decode cX7_shows 101 = .ok (.if_icmp .ne 5, 3) := by decide +kernel
theorem dX7_shows_104 : decode cX7_shows 104 = .ok (.aload_n 2, 1) := by decide +kernel
theorem dX7_shows_105 : decode cX7_shows 105 = .ok (.areturn, 1) := by decide +kernel
theorem dX7_shows_106 : decode cX7_shows 106 = .ok (.iconst 2, 1) := by decide +kernel
theorem dX7_shows_107 : decode cX7_shows 107 = .ok (.newarray .int, 2) := by decide +kernel
theorem dX7_shows_109 : decode cX7_shows 109 = .ok (.dup, 1) := by decide +kernel
theorem dX7_shows_110 : decode cX7_shows 110 = .ok (.iconst 0, 1) := by decide +kernel
theorem dX7_shows_111 : decode cX7_shows 111 = .ok (.iload_n 3, 1) := by decide +kernel
theorem dX7_shows_112 : decode cX7_shows 112 = .ok (.iastore, 1) := by decide +kernel
theorem dX7_shows_113 : decode cX7_shows 113 = .ok (.dup, 1) := by decide +kernel
theorem dX7_shows_114 : decode cX7_shows 114 = .ok (.iconst 1, 1) := by decide +kernel
theorem dX7_shows_115 : decode cX7_shows 115 = .ok (.iload 4, 2) := by decide +kernel
theorem dX7_shows_117 : decode cX7_shows 117 = .ok (.iastore, 1) := by decide +kernel
theorem dX7_shows_118 : decode cX7_shows 118 = .ok (.astore 5, 2) := by decide +kernel
theorem dX7_shows_120 : decode cX7_shows 120 = .ok (.aload_n 2, 1) := by decide +kernel
theorem dX7_shows_121 : decode cX7_shows 121 = .ok (.aload 5, 2) := by decide +kernel
theorem dX7_shows_123 : decode cX7_shows 123 = .ok (.invokestatic 36, 3) := by decide +kernel
theorem dX7_shows_126 : decode cX7_shows 126 = .ok (.astore_n 2, 1) := by decide +kernel
theorem dX7_shows_127 : decode cX7_shows 127 = .ok (.aload_n 0, 1) := by decide +kernel
theorem dX7_shows_128 : decode cX7_shows 128 = .ok (.getfield 15, 3) := by decide +kernel
theorem dX7_shows_131 : decode cX7_shows 131 = .ok (.iload 4, 2) := by decide +kernel
theorem dX7_shows_133 : decode cX7_shows 133 = .ok (.aaload, 1) := by decide +kernel
theorem dX7_shows_134 : decode cX7_shows 134 = .ok (.iload_n 3, 1) := by decide +kernel
theorem dX7_shows_135 : decode cX7_shows 135 = .ok (.aaload, 1) := by decide +kernel
theorem dX7_shows_136 : decode cX7_shows 136 = .ok (.iconst 0, 1) := by decide +kernel
theorem dX7_shows_137 : decode cX7_shows 137 = .ok (.iaload, 1) := by decide +kernel
theorem dX7_shows_138 : decode cX7_shows 138 = .ok (.iconst 1, 1) := by decide +kernel
theorem dX7_shows_139 : decode cX7_shows 139 = .ok (.if_icmp .ne 21, 3) := by decide +kernel
theorem dX7_shows_142 : decode cX7_shows 142 = .ok (.aload_n 0, 1) := by decide +kernel
theorem dX7_shows_143 : decode cX7_shows 143 = .ok (.getfield 15, 3) := by decide +kernel
theorem dX7_shows_146 : decode cX7_shows 146 = .ok (.iload 4, 2) := by decide +kernel
theorem dX7_shows_148 : decode cX7_shows 148 = .ok (.aaload, 1) := by decide +kernel
theorem dX7_shows_149 : decode cX7_shows 149 = .ok (.iload_n 3, 1) := by decide +kernel
theorem dX7_shows_150 : decode cX7_shows 150 = .ok (.aaload, 1) := by decide +kernel
theorem dX7_shows_151 : decode cX7_shows 151 = .ok (.iconst 2, 1) := by decide +kernel
theorem dX7_shows_152 : decode cX7_shows 152 = .ok (.iaload, 1) := by decide +kernel
theorem dX7_shows_153 : decode cX7_shows 153 = .ok (.bipush 6, 2) := by decide +kernel
theorem dX7_shows_155 : decode cX7_shows 155 = .ok (.if_icmp .le 5, 3) := by decide +kernel
theorem dX7_shows_158 : decode cX7_shows 158 = .ok (.aload_n 2, 1) := by decide +kernel
theorem dX7_shows_159 : decode cX7_shows 159 = .ok (.areturn, 1) := by decide +kernel
theorem dX7_shows_160 : decode cX7_shows 160 = .ok (.goto (-146), 3) := by decide +kernel
set_option maxRecDepth 20000 in
theorem ggX7_beauty_X7_shows : GoodIn wsX7_beauty wsX7_shows := goodIn_r _ [7, 8, 1, 9, 10, 11, 6, 12, 13, 14, 15, 16, 17, 18] (by decide +kernel) (by decide +kernel)
set_option maxRecDepth 20000 in
theorem gX7_beauty_X7_shows : GoodIn wsX7_beauty (wsV RX7 40 RX7 yX7_shows wsX7_shows) := goodIn_app (goodIn_of _ (by decide +kernel)) ggX7_beauty_X7_shows
theorem dX7_beauty_0 : decode cX7_beauty 0 = .ok (.aload_n 0, 1) := by decide +kernel
theorem dX7_beauty_1 : decode cX7_beauty 1 = .ok (.aload_n 1, 1) := by decide +kernel
theorem dX7_beauty_2 : decode cX7_beauty 2 = .ok (.invokevirtual 40, 3) := by decide +kernel
theorem dX7_beauty_5 : decode cX7_beauty 5 = .ok (.astore_n 2, 1) := by decide +kernel
theorem dX7_beauty_6 : decode cX7_beauty 6 = .ok (.iconst 0, 1) := by decide +kernel
theorem dX7_beauty_7 : decode cX7_beauty 7 = .ok (.istore_n 3, 1) := by decide +kernel
theorem dX7_beauty_8 : decode cX7_beauty 8 = .ok (.iconst 0, 1) := by decide +kernel
theorem dX7_beauty_9 : decode cX7_beauty 9 = .ok (.istore 4, 2) := by decide +kernel
theorem dX7_beauty_11 : decode cX7_beauty 11 = .ok (.iload 4, 2) := by decide +kernel
theorem dX7_beauty_13 : decode cX7_beauty 13 = .ok (.aload_n 2, 1) := by decide +kernel
theorem dX7_beauty_14 : decode cX7_beauty 14 = .ok (.arraylength, 1) := by decide +kernel
theorem dX7_beauty_15 : decode cX7_beauty 15 = .ok (.if_icmp .ge 232, 3) := by decide +kernel
theorem dX7_beauty_18 : decode cX7_beauty 18 = .ok (.aload_n 0, 1) := by decide +kernel
theorem dX7_beauty_19 : decode cX7_beauty 19 = .ok (.getfield 15, 3) := by decide +kernel
theorem dX7_beauty_22 : decode cX7_beauty 22 = .ok (.aload_n 2, 1) := by decide +kernel
theorem dX7_beauty_23 : decode cX7_beauty 23 = .ok (.iload 4, 2) := by decide +kernel
theorem dX7_beauty_25 : decode cX7_beauty 25 = .ok (.aaload, 1) := by decide +kernel
theorem dX7_beauty_26 : decode cX7_beauty 26 = .ok (.iconst 1, 1) := by decide +kernel
theorem dX7_beauty_27 : decode cX7_beauty 27 = .ok (.iaload, 1) := by decide +kernel
theorem dX7_beauty_28 : decode cX7_beauty 28 = .ok (.aaload, 1) := by decide +kernel
theorem dX7_beauty_29 : decode cX7_beauty 29 = .ok (.aload_n 2, 1) := by decide +kernel
theorem dX7_beauty_30 : decode cX7_beauty 30 = .ok (.iload 4, 2) := by decide +kernel
theorem dX7_beauty_32 : decode cX7_beauty 32 = .ok (.aaload, 1) := by decide +kernel
theorem dX7_beauty_33 : decode cX7_beauty 33 = .ok (.iconst 0, 1) := by decide +kernel
theorem dX7_beauty_34 : decode cX7_beauty 34 = .ok (.iaload, 1) := by decide +kernel
theorem dX7_beauty_35 : decode cX7_beauty 35 = .ok (.aaload, 1) := by decide +kernel
theorem dX7_beauty_36 : decode cX7_beauty 36 = .ok (.astore 5, 2) := by decide +kernel
theorem dX7_beauty_38 : decode cX7_beauty 38 = .ok (.aload 5, 2) := by decide +kernel
theorem dX7_beauty_40 : decode cX7_beauty 40 = .ok (.iconst 0, 1) := by decide +kernel
theorem dX7_beauty_41 : decode cX7_beauty 41 = .ok (.iaload, 1) := by decide +kernel
theorem dX7_beauty_42 : decode cX7_beauty 42 = .ok (.iconst 1, 1) := by decide +kernel
theorem dX7_beauty_43 : decode cX7_beauty 43 = .ok (.if_icmp .ne 101, 3) := by decide +kernel
theorem dX7_beauty_46 : decode cX7_beauty 46 = .ok (.iconst 1, 1) := by decide +kernel
theorem dX7_beauty_47 : decode cX7_beauty 47 = .ok (.istore 6, 2) := by decide +kernel
theorem dX7_beauty_49 : decode cX7_beauty 49 = .ok (.iconst 0, 1) := by decide +kernel
theorem dX7_beauty_50 : decode cX7_beauty 50 = .ok (.istore 7, 2) := by decide +kernel
theorem dX7_beauty_52 : decode cX7_beauty 52 = .ok (.iload 7, 2) := by decide +kernel
theorem dX7_beauty_54 : decode cX7_beauty 54 = .ok (.iload 4, 2) := by decide +kernel
theorem dX7_beauty_56 : decode cX7_beauty 56 = .ok (.if_icmp .ge 70, 3) := by decide +kernel
theorem dX7_beauty_59 : decode cX7_beauty 59 = .ok (.iload 6, 2) := by decide +kernel
theorem dX7_beauty_61 : decode cX7_beauty 61 = .ok (.aload_n 0, 1) := by decide +kernel
theorem dX7_beauty_62 : decode cX7_beauty 62 = .ok (.getfield 15, 3) := by decide +kernel
theorem dX7_beauty_65 : decode cX7_beauty 65 = .ok (.aload_n 2, 1) := by decide +kernel
theorem dX7_beauty_66 : decode cX7_beauty 66 = .ok (.iload 7, 2) := by decide +kernel
theorem dX7_beauty_68 : decode cX7_beauty 68 = .ok (.aaload, 1) := by decide +kernel
theorem dX7_beauty_69 : decode cX7_beauty 69 = .ok (.iconst 1, 1) := by decide +kernel
theorem dX7_beauty_70 : decode cX7_beauty 70 = .ok (.iaload, 1) := by decide +kernel
theorem dX7_beauty_71 : decode cX7_beauty 71 = .ok (.aaload, 1) := by decide +kernel
theorem dX7_beauty_72 : decode cX7_beauty 72 = .ok (.aload_n 2, 1) := by decide +kernel
theorem dX7_beauty_73 : decode cX7_beauty 73 = .ok (.iload 7, 2) := by decide +kernel
theorem dX7_beauty_75 : decode cX7_beauty 75 = .ok (.aaload, 1) := by decide +kernel
theorem dX7_beauty_76 : decode cX7_beauty 76 = .ok (.iconst 0, 1) := by decide +kernel
theorem dX7_beauty_77 : decode cX7_beauty 77 = .ok (.iaload, 1) := by decide +kernel
theorem dX7_beauty_78 : decode cX7_beauty 78 = .ok (.aaload, 1) := by decide +kernel
theorem dX7_beauty_79 : decode cX7_beauty 79 = .ok (.iconst 0, 1) := by decide +kernel
theorem dX7_beauty_80 : decode cX7_beauty 80 = .ok (.iaload, 1) := by decide +kernel
theorem dX7_beauty_81 : decode cX7_beauty 81 = .ok (.iconst 1, 1) := by decide +kernel
theorem dX7_beauty_82 : decode cX7_beauty 82 = .ok (.if_icmp .ne 30, 3) := by decide +kernel
theorem dX7_beauty_85 : decode cX7_beauty 85 = .ok (.aload_n 0, 1) := by decide +kernel
theorem dX7_beauty_86 : decode cX7_beauty 86 = .ok (.getfield 15, 3) := by decide +kernel
theorem dX7_beauty_89 : decode cX7_beauty 89 = .ok (.aload_n 2, 1) := by decide +kernel
theorem dX7_beauty_90 : decode cX7_beauty 90 = .ok (.iload 7, 2) := by decide +kernel
theorem dX7_beauty_92 : decode cX7_beauty 92 = .ok (.aaload, 1) := by decide +kernel
theorem dX7_beauty_93 : decode cX7_beauty 93 = .ok (.iconst 1, 1) := by decide +kernel
theorem dX7_beauty_94 : decode cX7_beauty 94 = .ok (.iaload, 1) := by decide +kernel
theorem dX7_beauty_95 : decode cX7_beauty 95 = .ok (.aaload, 1) := by decide +kernel
theorem dX7_beauty_96 : decode cX7_beauty 96 = .ok (.aload_n 2, 1) := by decide +kernel
theorem dX7_beauty_97 : decode cX7_beauty 97 = .ok (.iload 7, 2) := by decide +kernel
theorem dX7_beauty_99 : decode cX7_beauty 99 = .ok (.aaload, 1) := by decide +kernel
theorem dX7_beauty_100 : decode cX7_beauty 100 = .ok (.iconst 0, 1) := by decide +kernel
theorem dX7_beauty_101 : decode cX7_beauty 101 = .ok (.iaload, 1) := by decide +kernel
theorem dX7_beauty_102 : decode cX7_beauty 102 = .ok (.aaload, 1) := by decide +kernel
theorem dX7_beauty_103 : decode cX7_beauty 103 = .ok (.iconst 1, 1) := by decide +kernel
theorem dX7_beauty_104 : decode cX7_beauty 104 = .ok (.iaload, 1) := by decide +kernel
theorem dX7_beauty_105 : decode cX7_beauty 105 = .ok (.aload 5, 2) := by decide +kernel
theorem dX7_beauty_107 : decode cX7_beauty 107 = .ok (.iconst 1, 1) := by decide +kernel
theorem dX7_beauty_108 : decode cX7_beauty 108 = .ok (.iaload, 1) := by decide +kernel
theorem dX7_beauty_109 : decode cX7_beauty 109 = .ok (.if_icmp .eq 7, 3) := by decide +kernel
theorem dX7_beauty_112 : decode cX7_beauty 112 = .ok (.iconst 1, 1) := by decide +kernel
theorem dX7_beauty_113 : decode cX7_beauty 113 = .ok (.goto 4, 3) := by decide +kernel
theorem dX7_beauty_116 : decode cX7_beauty 116 = .ok (.iconst 0, 1) := by decide +kernel
theorem dX7_beauty_117 : decode cX7_beauty 117 = .ok (.iand, 1) := by decide +kernel
theorem dX7_beauty_118 : decode cX7_beauty 118 = .ok (.istore 6, 2) := by decide +kernel
theorem dX7_beauty_120 : decode cX7_beauty 120 = .ok (.iinc 7 1, 3) := by decide +kernel
theorem dX7_beauty_123 : decode cX7_beauty 123 = .ok (.goto (-71), 3) := by decide +kernel
theorem dX7_beauty_126 : decode cX7_beauty 126 = .ok (.iload_n 3, 1) := by decide +kernel
theorem dX7_beauty_127 : decode cX7_beauty 127 = .ok (.aload 5, 2) := by decide +kernel
theorem dX7_beauty_129 : decode cX7_beauty 129 = .ok (.iconst 2, 1) := by decide +kernel
theorem dX7_beauty_130 : decode cX7_beauty 130 = .ok (.iaload, 1) := by decide +kernel
theorem dX7_beauty_131 : decode cX7_beauty 131 = .ok (.iload 6, 2) := by decide +kernel
theorem dX7_beauty_133 : decode cX7_beauty 133 = .ok (.ifCond .eq 7, 3) := by decide +kernel
theorem dX7_beauty_136 : decode cX7_beauty 136 = .ok (.iconst 4, 1) := by decide +kernel
theorem dX7_beauty_137 : decode cX7_beauty 137 = .ok (.goto 4, 3) := by decide +kernel
theorem dX7_beauty_140 : decode cX7_beauty 140 = .ok (.iconst 0, 1) := by decide +kernel
theorem dX7_beauty_141 : decode cX7_beauty 141 = .ok (.iadd, 1) := by decide +kernel
theorem dX7_beauty_142 : decode cX7_beauty 142 = .ok (.iadd, 1) := by decide +kernel
theorem dX7_beauty_143 : decode cX7_beauty 143 = .ok (.istore_n 3, 1) := by decide +kernel
theorem dX7_beauty_144 : decode cX7_beauty 144 = .ok (.aload 5, 2) := by decide +kernel
theorem dX7_beauty_146 : decode cX7_beauty 146 = .ok (.iconst 0, 1) := by decide +kernel
theorem dX7_beauty_147 : decode cX7_beauty 147 = .ok (.iaload, 1) := by decide +kernel
theorem dX7_beauty_148 : decode cX7_beauty 148 = .ok (.iconst 2, 1) := by decide +kernel
theorem dX7_beauty_149 : decode cX7_beauty 149 = .ok (.if_icmp .ne 92, 3) := by decide +kernel
theorem dX7_beauty_152 : decode cX7_beauty 152 = .ok (.iconst 0, 1) := by decide +kernel
theorem dX7_beauty_153 : decode cX7_beauty 153 = .ok (.istore 6, 2) := by decide +kernel
theorem dX7_beauty_155 : decode cX7_beauty 155 = .ok (.aload_n 0, 1) := by decide +kernel
theorem dX7_beauty_156 : decode cX7_beauty 156 = .ok (.getfield 20, 3) := by decide +kernel
theorem dX7_beauty_159 : decode cX7_beauty 159 = .ok (.astore 7, 2) := by decide +kernel
theorem dX7_beauty_161 : decode cX7_beauty 161 = .ok (.aload 7, 2) := by decide +kernel
theorem dX7_beauty_163 : decode cX7_beauty 163 = .ok (.arraylength, 1) := by decide +kernel
theorem dX7_beauty_164 : decode cX7_beauty 164 = .ok (.istore 8, 2) := by decide +kernel
theorem dX7_beauty_166 : decode cX7_beauty 166 = .ok (.iconst 0, 1) := by decide +kernel
theorem dX7_beauty_167 : decode cX7_beauty 167 = .ok (.istore 9, 2) := by decide +kernel
theorem dX7_beauty_169 : decode cX7_beauty 169 = .ok (.iload 9, 2) := by decide +kernel
theorem dX7_beauty_171 : decode cX7_beauty 171 = .ok (.iload 8, 2) := by decide +kernel
theorem dX7_beauty_173 : decode cX7_beauty 173 = .ok (.if_icmp .ge 58, 3) := by decide +kernel
theorem dX7_beauty_176 : decode cX7_beauty 176 = .ok (.aload 7, 2) := by decide +kernel
theorem dX7_beauty_178 : decode cX7_beauty 178 = .ok (.iload 9, 2) := by decide +kernel
theorem dX7_beauty_180 : decode cX7_beauty 180 = .ok (.aaload, 1) := by decide +kernel
theorem dX7_beauty_181 : decode cX7_beauty 181 = .ok (.astore 10, 2) := by decide +kernel
theorem dX7_beauty_183 : decode cX7_beauty 183 = .ok (.aload 10, 2) := by decide +kernel
theorem dX7_beauty_185 : decode cX7_beauty 185 = .ok (.iconst 3, 1) := by decide +kernel
theorem dX7_beauty_186 : decode cX7_beauty 186 = .ok (.iaload, 1) := by decide +kernel
theorem dX7_beauty_187 : decode cX7_beauty 187 = .ok (.ifCond .ne 38, 3) := by decide +kernel
theorem dX7_beauty_190 : decode cX7_beauty 190 = .ok (.aload 10, 2) := by decide +kernel
theorem dX7_beauty_192 : decode cX7_beauty 192 = .ok (.iconst 0, 1) := by decide +kernel
theorem dX7_beauty_193 : decode cX7_beauty 193 = .ok (.iaload, 1) := by decide +kernel
theorem dX7_beauty_194 : decode cX7_beauty 194 = .ok (.aload_n 2, 1) := by decide +kernel
theorem dX7_beauty_195 : decode cX7_beauty 195 = .ok (.iload 4, 2) := by decide +kernel
theorem dX7_beauty_197 : decode cX7_beauty 197 = .ok (.aaload, 1) := by decide +kernel
theorem dX7_beauty_198 : decode cX7_beauty 198 = .ok (.iconst 0, 1) := by decide +kernel
theorem dX7_beauty_199 : decode cX7_beauty 199 = .ok (.iaload, 1) := by decide +kernel
theorem dX7_beauty_200 : decode cX7_beauty 200 = .ok (.if_icmp .ne 25, 3) := by decide +kernel
theorem dX7_beauty_203 : decode cX7_beauty 203 = .ok (.aload 10, 2) := by decide +kernel
theorem dX7_beauty_205 : decode cX7_beauty 205 = .ok (.iconst 1, 1) := by decide +kernel
theorem dX7_beauty_206 : decode cX7_beauty 206 = .ok (.iaload, 1) := by decide +kernel
theorem dX7_beauty_207 : decode cX7_beauty 207 = .ok (.aload_n 2, 1) := by decide +kernel
theorem dX7_beauty_208 : decode cX7_beauty 208 = .ok (.iload 4, 2) := by decide +kernel
theorem dX7_beauty_210 : decode cX7_beauty 210 = .ok (.aaload, 1) := by decide +kernel
theorem dX7_beauty_211 : decode cX7_beauty 211 = .ok (.iconst 1, 1) := by decide +kernel
theorem dX7_beauty_212 : decode cX7_beauty 212 = .ok (.iaload, 1) := by decide +kernel
theorem dX7_beauty_213 : decode cX7_beauty 213 = .ok (.if_icmp .ne 12, 3) := by decide +kernel
theorem dX7_beauty_216 : decode cX7_beauty 216 = .ok (.iload 6, 2) := by decide +kernel
theorem dX7_beauty_218 : decode cX7_beauty 218 = .ok (.aload 10, 2) := by decide +kernel
theorem dX7_beauty_220 : decode cX7_beauty 220 = .ok (.iconst 2, 1) := by decide +kernel
theorem dX7_beauty_221 : decode cX7_beauty 221 = .ok (.iaload, 1) := by decide +kernel
theorem dX7_beauty_222 : decode cX7_beauty 222 = .ok (.iadd, 1) := by decide +kernel
theorem dX7_beauty_223 : decode cX7_beauty 223 = .ok (.istore 6, 2) := by decide +kernel
theorem dX7_beauty_225 : decode cX7_beauty 225 = .ok (.iinc 9 1, 3) := by decide +kernel
theorem dX7_beauty_228 : decode cX7_beauty 228 = .ok (.goto (-59), 3) := by decide +kernel
theorem dX7_beauty_231 : decode cX7_beauty 231 = .ok (.iload_n 3, 1) := by decide +kernel
theorem dX7_beauty_232 : decode cX7_beauty 232 = .ok (.iconst 3, 1) := by decide +kernel
theorem dX7_beauty_233 : decode cX7_beauty 233 = .ok (.iload 6, 2) := by decide +kernel
theorem dX7_beauty_235 : decode cX7_beauty 235 = .ok (.bipush 10, 2) := by decide +kernel
theorem dX7_beauty_237 : decode cX7_beauty 237 = .ok (.idiv, 1) := by decide +kernel
theorem dX7_beauty_238 : decode cX7_beauty 238 = .ok (.iadd, 1) := by decide +kernel
theorem dX7_beauty_239 : decode cX7_beauty 239 = .ok (.iadd, 1) := by decide +kernel
theorem dX7_beauty_240 : decode cX7_beauty 240 = .ok (.istore_n 3, 1) := by decide +kernel
theorem dX7_beauty_241 : decode cX7_beauty 241 = .ok (.iinc 4 1, 3) := by decide +kernel
theorem dX7_beauty_244 : decode cX7_beauty 244 = .ok (.goto (-233), 3) := by decide +kernel
theorem dX7_beauty_247 : decode cX7_beauty 247 = .ok (.iload_n 3, 1) := by decide +kernel
theorem dX7_beauty_248 : decode cX7_beauty 248 = .ok (.ireturn, 1) := by decide +kernel
set_option maxRecDepth 20000 in
theorem ggX7_pass_X7_pond : GoodIn wsX7_pass wsX7_pond := goodIn_r _ [10, 11, 12, 13, 34, 35, 36, 37, 38, 39] (by decide +kernel) (by decide +kernel)
set_option maxRecDepth 20000 in
theorem gX7_pass_X7_pond : GoodIn wsX7_pass (wsV RX7 44 RX7 yX7_pond wsX7_pond) := goodIn_app (goodIn_of _ (by decide +kernel)) ggX7_pass_X7_pond
set_option maxRecDepth 20000 in
theorem ggX7_pass_X7_carpsIn : GoodIn wsX7_pass wsX7_carpsIn := goodIn_r _ [17, 1, 34, 35, 36, 37, 38, 39] (by decide +kernel) (by decide +kernel)
set_option maxRecDepth 20000 in
theorem gX7_pass_X7_carpsIn : GoodIn wsX7_pass (wsV RX7 48 RX7 yX7_carpsIn wsX7_carpsIn) := goodIn_app (goodIn_of _ (by decide +kernel)) ggX7_pass_X7_carpsIn
set_option maxRecDepth 20000 in
theorem ggX7_pass_X7_many : GoodIn wsX7_pass wsX7_many := goodIn_r _ [20] (by decide +kernel) (by decide +kernel)
set_option maxRecDepth 20000 in
theorem gX7_pass_X7_many : GoodIn wsX7_pass (va_wsS RX7 52 yX7_many wsX7_many) := goodIn_app (goodIn_of _ (by decide +kernel)) ggX7_pass_X7_many
set_option maxRecDepth 20000 in
theorem ggX7_pass_X7_beauty : GoodIn wsX7_pass wsX7_beauty := goodIn_r _ [24, 13, 1, 25, 26, 27, 9, 28, 29, 30, 31, 32, 33, 34, 35, 36, 37, 38, 39] (by decide +kernel) (by decide +kernel)
set_option maxRecDepth 20000 in
theorem gX7_pass_X7_beauty : GoodIn wsX7_pass (wsV RX7 55 RX7 yX7_beauty wsX7_beauty) := goodIn_app (goodIn_of _ (by decide +kernel)) ggX7_pass_X7_beauty
theorem dX7_pass_0 : decode cX7_pass 0 = .ok (.aload_n 0, 1) := by decide +kernel
theorem dX7_pass_1 : decode cX7_pass 1 = .ok (.getfield 20, 3) := by decide +kernel
theorem dX7_pass_4 : decode cX7_pass 4 = .ok (.astore_n 1, 1) := by decide +kernel
theorem dX7_pass_5 : decode cX7_pass 5 = .ok (.aload_n 1, 1) := by decide +kernel
theorem dX7_pass_6 : decode cX7_pass 6 = .ok (.arraylength, 1) := by decide +kernel
theorem dX7_pass_7 : decode cX7_pass 7 = .ok (.istore_n 2, 1) := by decide +kernel
theorem dX7_pass_8 : decode cX7_pass 8 = .ok (.iconst 0, 1) := by decide +kernel
theorem dX7_pass_9 : decode cX7_pass 9 = .ok (.istore_n 3, 1) := by decide +kernel
theorem dX7_pass_10 : decode cX7_pass 10 = .ok (.iload_n 3, 1) := by decide +kernel
theorem dX7_pass_11 : decode cX7_pass 11 = .ok (.iload_n 2, 1) := by decide +kernel
theorem dX7_pass_12 : decode cX7_pass 12 = .ok (.if_icmp .ge 104, 3) := by decide +kernel
theorem dX7_pass_15 : decode cX7_pass 15 = .ok (.aload_n 1, 1) := by decide +kernel
theorem dX7_pass_16 : decode cX7_pass 16 = .ok (.iload_n 3, 1) := by decide +kernel
theorem dX7_pass_17 : decode cX7_pass 17 = .ok (.aaload, 1) := by decide +kernel
theorem dX7_pass_18 : decode cX7_pass 18 = .ok (.astore 4, 2) := by decide +kernel
theorem dX7_pass_20 : decode cX7_pass 20 = .ok (.aload 4, 2) := by decide +kernel
theorem dX7_pass_22 : decode cX7_pass 22 = .ok (.iconst 3, 1) := by decide +kernel
theorem dX7_pass_23 : decode cX7_pass 23 = .ok (.iaload, 1) := by decide +kernel
theorem dX7_pass_24 : decode cX7_pass 24 = .ok (.iconst 1, 1) := by decide +kernel
theorem dX7_pass_25 : decode cX7_pass 25 = .ok (.if_icmp .ne 6, 3) := by decide +kernel
theorem dX7_pass_28 : decode cX7_pass 28 = .ok (.goto 82, 3) := by decide +kernel
theorem dX7_pass_31 : decode cX7_pass 31 = .ok (.aload_n 0, 1) := by decide +kernel
theorem dX7_pass_32 : decode cX7_pass 32 = .ok (.aload 4, 2) := by decide +kernel
theorem dX7_pass_34 : decode cX7_pass 34 = .ok (.iconst 0, 1) := by decide +kernel
theorem dX7_pass_35 : decode cX7_pass 35 = .ok (.iaload, 1) := by decide +kernel
theorem dX7_pass_36 : decode cX7_pass 36 = .ok (.aload 4, 2) := by decide +kernel
theorem dX7_pass_38 : decode cX7_pass 38 = .ok (.iconst 1, 1) := by decide +kernel
theorem dX7_pass_39 : decode cX7_pass 39 = .ok (.iaload, 1) := by decide +kernel
theorem dX7_pass_40 : decode cX7_pass 40 = .ok (.invokevirtual 44, 3) := by decide +kernel
theorem dX7_pass_43 : decode cX7_pass 43 = .ok (.astore 5, 2) := by decide +kernel
theorem dX7_pass_45 : decode cX7_pass 45 = .ok (.aload_n 0, 1) := by decide +kernel
theorem dX7_pass_46 : decode cX7_pass 46 = .ok (.aload 5, 2) := by decide +kernel
theorem dX7_pass_48 : decode cX7_pass 48 = .ok (.invokevirtual 48, 3) := by decide +kernel
theorem dX7_pass_51 : decode cX7_pass 51 = .ok (.iconst 2, 1) := by decide +kernel
theorem dX7_pass_52 : decode cX7_pass 52 = .ok (.aload 5, 2) := by decide +kernel
theorem dX7_pass_54 : decode cX7_pass 54 = .ok (.invokestatic 52, 3) := by decide +kernel
theorem dX7_pass_57 : decode cX7_pass 57 = .ok (.imul, 1) := by decide +kernel
theorem dX7_pass_58 : decode cX7_pass 58 = .ok (.if_icmp .le 28, 3) := by decide +kernel
theorem dX7_pass_61 : decode cX7_pass 61 = .ok (.aload 4, 2) := by decide +kernel
theorem dX7_pass_63 : decode cX7_pass 63 = .ok (.iconst 2, 1) := by decide +kernel
theorem dX7_pass_64 : decode cX7_pass 64 = .ok (.aload 4, 2) := by decide +kernel
theorem dX7_pass_66 : decode cX7_pass 66 = .ok (.iconst 2, 1) := by decide +kernel
theorem dX7_pass_67 : decode cX7_pass 67 = .ok (.iaload, 1) := by decide +kernel
theorem dX7_pass_68 : decode cX7_pass 68 = .ok (.iconst 1, 1) := by decide +kernel
theorem dX7_pass_69 : decode cX7_pass 69 = .ok (.if_icmp .le 12, 3) := by decide +kernel
theorem dX7_pass_72 : decode cX7_pass 72 = .ok (.aload 4, 2) := by decide +kernel
theorem dX7_pass_74 : decode cX7_pass 74 = .ok (.iconst 2, 1) := by decide +kernel
theorem dX7_pass_75 : decode cX7_pass 75 = .ok (.iaload, 1) := by decide +kernel
theorem dX7_pass_76 : decode cX7_pass 76 = .ok (.iconst 1, 1) := by decide +kernel
theorem dX7_pass_77 : decode cX7_pass 77 = .ok (.isub, 1) := by decide +kernel
theorem dX7_pass_78 : decode cX7_pass 78 = .ok (.goto 4, 3) := by decide +kernel
theorem dX7_pass_81 : decode cX7_pass 81 = .ok (.iconst 1, 1) := by decide +kernel
theorem dX7_pass_82 : decode cX7_pass 82 = .ok (.iastore, 1) := by decide +kernel
theorem dX7_pass_83 : decode cX7_pass 83 = .ok (.goto 27, 3) := by decide +kernel
theorem dX7_pass_86 : decode cX7_pass 86 = .ok (.aload 4, 2) := by decide +kernel
theorem dX7_pass_88 : decode cX7_pass 88 = .ok (.iconst 2, 1) := by decide +kernel
theorem dX7_pass_89 : decode cX7_pass 89 = .ok (.aload 4, 2) := by decide +kernel
theorem dX7_pass_91 : decode cX7_pass 91 = .ok (.iconst 2, 1) := by decide +kernel
theorem dX7_pass_92 : decode cX7_pass 92 = .ok (.iaload, 1) := by decide +kernel
theorem dX7_pass_93 : decode cX7_pass 93 = .ok (.bipush 40, 2) := by decide +kernel
theorem dX7_pass_95 : decode cX7_pass 95 = .ok (.if_icmp .ge 12, 3) := by decide +kernel
theorem dX7_pass_98 : decode cX7_pass 98 = .ok (.aload 4, 2) := by decide +kernel
theorem dX7_pass_100 : decode cX7_pass 100 = .ok (.iconst 2, 1) := by decide +kernel
theorem dX7_pass_101 : decode cX7_pass 101 = .ok (.iaload, 1) := by decide +kernel
theorem dX7_pass_102 : decode cX7_pass 102 = .ok (.iconst 1, 1) := by decide +kernel
theorem dX7_pass_103 : decode cX7_pass 103 = .ok (.iadd, 1) := by decide +kernel
theorem dX7_pass_104 : decode cX7_pass 104 = .ok (.goto 5, 3) := by decide +kernel
theorem dX7_pass_107 : decode cX7_pass 107 = .ok (.bipush 40, 2) := by decide +kernel
theorem dX7_pass_109 : decode cX7_pass 109 = .ok (.iastore, 1) := by decide +kernel
theorem dX7_pass_110 : decode cX7_pass 110 = .ok (.iinc 3 1, 3) := by decide +kernel
theorem dX7_pass_113 : decode cX7_pass 113 = .ok (.goto (-103), 3) := by decide +kernel
theorem dX7_pass_116 : decode cX7_pass 116 = .ok (.iconst 0, 1) := by decide +kernel
theorem dX7_pass_117 : decode cX7_pass 117 = .ok (.istore_n 1, 1) := by decide +kernel
theorem dX7_pass_118 : decode cX7_pass 118 = .ok (.aload_n 0, 1) := by decide +kernel
theorem dX7_pass_119 : decode cX7_pass 119 = .ok (.getfield 27, 3) := by decide +kernel
theorem dX7_pass_122 : decode cX7_pass 122 = .ok (.astore_n 2, 1) := by decide +kernel
theorem dX7_pass_123 : decode cX7_pass 123 = .ok (.aload_n 2, 1) := by decide +kernel
theorem dX7_pass_124 : decode cX7_pass 124 = .ok (.arraylength, 1) := by decide +kernel
theorem dX7_pass_125 : decode cX7_pass 125 = .ok (.istore_n 3, 1) := by decide +kernel
theorem dX7_pass_126 : decode cX7_pass 126 = .ok (.iconst 0, 1) := by decide +kernel
theorem dX7_pass_127 : decode cX7_pass 127 = .ok (.istore 4, 2) := by decide +kernel
theorem dX7_pass_129 : decode cX7_pass 129 = .ok (.iload 4, 2) := by decide +kernel
theorem dX7_pass_131 : decode cX7_pass 131 = .ok (.iload_n 3, 1) := by decide +kernel
theorem dX7_pass_132 : decode cX7_pass 132 = .ok (.if_icmp .ge 64, 3) := by decide +kernel
theorem dX7_pass_135 : decode cX7_pass 135 = .ok (.aload_n 2, 1) := by decide +kernel
theorem dX7_pass_136 : decode cX7_pass 136 = .ok (.iload 4, 2) := by decide +kernel
theorem dX7_pass_138 : decode cX7_pass 138 = .ok (.aaload, 1) := by decide +kernel
theorem dX7_pass_139 : decode cX7_pass 139 = .ok (.astore 5, 2) := by decide +kernel
theorem dX7_pass_141 : decode cX7_pass 141 = .ok (.aload_n 0, 1) := by decide +kernel
theorem dX7_pass_142 : decode cX7_pass 142 = .ok (.aload_n 0, 1) := by decide +kernel
theorem dX7_pass_143 : decode cX7_pass 143 = .ok (.getfield 24, 3) := by decide +kernel
theorem dX7_pass_146 : decode cX7_pass 146 = .ok (.aload 5, 2) := by decide +kernel
theorem dX7_pass_148 : decode cX7_pass 148 = .ok (.iconst 0, 1) := by decide +kernel
theorem dX7_pass_149 : decode cX7_pass 149 = .ok (.iaload, 1) := by decide +kernel
theorem dX7_pass_150 : decode cX7_pass 150 = .ok (.aaload, 1) := by decide +kernel
theorem dX7_pass_151 : decode cX7_pass 151 = .ok (.invokevirtual 55, 3) := by decide +kernel
theorem dX7_pass_154 : decode cX7_pass 154 = .ok (.iconst 5, 1) := by decide +kernel
theorem dX7_pass_155 : decode cX7_pass 155 = .ok (.idiv, 1) := by decide +kernel
theorem dX7_pass_156 : decode cX7_pass 156 = .ok (.istore 6, 2) := by decide +kernel
theorem dX7_pass_158 : decode cX7_pass 158 = .ok (.aload_n 0, 1) := by decide +kernel
theorem dX7_pass_159 : decode cX7_pass 159 = .ok (.getfield 59, 3) := by decide +kernel
theorem dX7_pass_162 : decode cX7_pass 162 = .ok (.bipush 8, 2) := by decide +kernel
theorem dX7_pass_164 : decode cX7_pass 164 = .ok (.irem, 1) := by decide +kernel
theorem dX7_pass_165 : decode cX7_pass 165 = .ok (.iconst 4, 1) := by decide +kernel
theorem dX7_pass_166 : decode cX7_pass 166 = .ok (.if_icmp .ne 10, 3) := by decide +kernel
theorem dX7_pass_169 : decode cX7_pass 169 = .ok (.iload 6, 2) := by decide +kernel
theorem dX7_pass_171 : decode cX7_pass 171 = .ok (.iload 6, 2) := by decide +kernel
theorem dX7_pass_173 : decode cX7_pass 173 = .ok (.iadd, 1) := by decide +kernel
theorem dX7_pass_174 : decode cX7_pass 174 = .ok (.istore 6, 2) := by decide +kernel
theorem dX7_pass_176 : decode cX7_pass 176 = .ok (.aload 5, 2) := by decide +kernel
theorem dX7_pass_178 : decode cX7_pass 178 = .ok (.iconst 1, 1) := by decide +kernel
theorem dX7_pass_179 : decode cX7_pass 179 = .ok (.dup2, 1) := by decide +kernel
theorem dX7_pass_180 : decode cX7_pass 180 = .ok (.iaload, 1) := by decide +kernel
theorem dX7_pass_181 : decode cX7_pass 181 = .ok (.iload 6, 2) := by decide +kernel
theorem dX7_pass_183 : decode cX7_pass 183 = .ok (.iadd, 1) := by decide +kernel
theorem dX7_pass_184 : decode cX7_pass 184 = .ok (.iastore, 1) := by decide +kernel
theorem dX7_pass_185 : decode cX7_pass 185 = .ok (.iload_n 1, 1) := by decide +kernel
theorem dX7_pass_186 : decode cX7_pass 186 = .ok (.iload 6, 2) := by decide +kernel
theorem dX7_pass_188 : decode cX7_pass 188 = .ok (.iadd, 1) := by decide +kernel
theorem dX7_pass_189 : decode cX7_pass 189 = .ok (.istore_n 1, 1) := by decide +kernel
theorem dX7_pass_190 : decode cX7_pass 190 = .ok (.iinc 4 1, 3) := by decide +kernel
theorem dX7_pass_193 : decode cX7_pass 193 = .ok (.goto (-64), 3) := by decide +kernel
theorem dX7_pass_196 : decode cX7_pass 196 = .ok (.aload_n 0, 1) := by decide +kernel
theorem dX7_pass_197 : decode cX7_pass 197 = .ok (.dup, 1) := by decide +kernel
theorem dX7_pass_198 : decode cX7_pass 198 = .ok (.getfield 7, 3) := by decide +kernel
theorem dX7_pass_201 : decode cX7_pass 201 = .ok (.iload_n 1, 1) := by decide +kernel
theorem dX7_pass_202 : decode cX7_pass 202 = .ok (.bipush 10, 2) := by decide +kernel
theorem dX7_pass_204 : decode cX7_pass 204 = .ok (.idiv, 1) := by decide +kernel
theorem dX7_pass_205 : decode cX7_pass 205 = .ok (.iadd, 1) := by decide +kernel
theorem dX7_pass_206 : decode cX7_pass 206 = .ok (.putfield 7, 3) := by decide +kernel
theorem dX7_pass_209 : decode cX7_pass 209 = .ok (.aload_n 0, 1) := by decide +kernel
theorem dX7_pass_210 : decode cX7_pass 210 = .ok (.dup, 1) := by decide +kernel
theorem dX7_pass_211 : decode cX7_pass 211 = .ok (.getfield 59, 3) := by decide +kernel
theorem dX7_pass_214 : decode cX7_pass 214 = .ok (.iconst 1, 1) := by decide +kernel
theorem dX7_pass_215 : decode cX7_pass 215 = .ok (.iadd, 1) := by decide +kernel
theorem dX7_pass_216 : decode cX7_pass 216 = .ok (.putfield 59, 3) := by decide +kernel
theorem dX7_pass_219 : decode cX7_pass 219 = .ok (.iload_n 1, 1) := by decide +kernel
theorem dX7_pass_220 : decode cX7_pass 220 = .ok (.ireturn, 1) := by decide +kernel
set_option maxRecDepth 20000 in
theorem ggX7_counts_X7_pond : GoodIn wsX7_counts wsX7_pond := goodIn_r _ [14, 1, 2, 3, 15, 16, 17, 18, 19, 20] (by decide +kernel) (by decide +kernel)
set_option maxRecDepth 20000 in
theorem gX7_counts_X7_pond : GoodIn wsX7_counts (wsV RX7 44 RX7 yX7_pond wsX7_pond) := goodIn_app (goodIn_of _ (by decide +kernel)) ggX7_counts_X7_pond
theorem dX7_counts_0 : decode cX7_counts 0 = .ok (.iconst 0, 1) := by decide +kernel
theorem dX7_counts_1 : decode cX7_counts 1 = .ok (.istore_n 1, 1) := by decide +kernel
theorem dX7_counts_2 : decode cX7_counts 2 = .ok (.iconst 0, 1) := by decide +kernel
theorem dX7_counts_3 : decode cX7_counts 3 = .ok (.istore_n 2, 1) := by decide +kernel
theorem dX7_counts_4 : decode cX7_counts 4 = .ok (.iconst 0, 1) := by decide +kernel
theorem dX7_counts_5 : decode cX7_counts 5 = .ok (.istore_n 3, 1) := by decide +kernel
theorem dX7_counts_6 : decode cX7_counts 6 = .ok (.bipush 7, 2) := by decide +kernel
theorem dX7_counts_8 : decode cX7_counts 8 = .ok (.bipush 10, 2) := by decide +kernel
theorem dX7_counts_10 : decode cX7_counts 10 = .ok (.multianewarray 34 2, 4) := by decide +kernel
theorem dX7_counts_14 : decode cX7_counts 14 = .ok (.astore 4, 2) := by decide +kernel
theorem dX7_counts_16 : decode cX7_counts 16 = .ok (.iconst 0, 1) := by decide +kernel
theorem dX7_counts_17 : decode cX7_counts 17 = .ok (.istore 5, 2) := by decide +kernel
theorem dX7_counts_19 : decode cX7_counts 19 = .ok (.iload 5, 2) := by decide +kernel
theorem dX7_counts_21 : decode cX7_counts 21 = .ok (.bipush 7, 2) := by decide +kernel
theorem dX7_counts_23 : decode cX7_counts 23 = .ok (.if_icmp .ge 149, 3) := by decide +kernel
theorem dX7_counts_26 : decode cX7_counts 26 = .ok (.iconst 0, 1) := by decide +kernel
theorem dX7_counts_27 : decode cX7_counts 27 = .ok (.istore 6, 2) := by decide +kernel
theorem dX7_counts_29 : decode cX7_counts 29 = .ok (.iload 6, 2) := by decide +kernel
theorem dX7_counts_31 : decode cX7_counts 31 = .ok (.bipush 10, 2) := by decide +kernel
theorem dX7_counts_33 : decode cX7_counts 33 = .ok (.if_icmp .ge 133, 3) := by decide +kernel
theorem dX7_counts_36 : decode cX7_counts 36 = .ok (.iload_n 1, 1) := by decide +kernel
theorem dX7_counts_37 : decode cX7_counts 37 = .ok (.aload_n 0, 1) := by decide +kernel
theorem dX7_counts_38 : decode cX7_counts 38 = .ok (.getfield 15, 3) := by decide +kernel
theorem dX7_counts_41 : decode cX7_counts 41 = .ok (.iload 5, 2) := by decide +kernel
theorem dX7_counts_43 : decode cX7_counts 43 = .ok (.aaload, 1) := by decide +kernel
theorem dX7_counts_44 : decode cX7_counts 44 = .ok (.iload 6, 2) := by decide +kernel
theorem dX7_counts_46 : decode cX7_counts 46 = .ok (.aaload, 1) := by decide +kernel
theorem dX7_counts_47 : decode cX7_counts 47 = .ok (.iconst 0, 1) := by decide +kernel
theorem dX7_counts_48 : decode cX7_counts 48 = .ok (.iaload, 1) := by decide +kernel
theorem dX7_counts_49 : decode cX7_counts 49 = .ok (.iconst 1, 1) := by decide +kernel
theorem dX7_counts_50 : decode cX7_counts 50 = .ok (.if_icmp .ne 7, 3) := by decide +kernel
theorem dX7_counts_53 : decode cX7_counts 53 = .ok (.iconst 1, 1) := by decide +kernel
theorem dX7_counts_54 : decode cX7_counts 54 = .ok (.goto 4, 3) := by decide +kernel
theorem dX7_counts_57 : decode cX7_counts 57 = .ok (.iconst 0, 1) := by decide +kernel
theorem dX7_counts_58 : decode cX7_counts 58 = .ok (.iadd, 1) := by decide +kernel
theorem dX7_counts_59 : decode cX7_counts 59 = .ok (.istore_n 1, 1) := by decide +kernel
theorem dX7_counts_60 : decode cX7_counts 60 = .ok (.aload_n 0, 1) := by decide +kernel
theorem dX7_counts_61 : decode cX7_counts 61 = .ok (.getfield 15, 3) := by decide +kernel
theorem dX7_counts_64 : decode cX7_counts 64 = .ok (.iload 5, 2) := by decide +kernel
theorem dX7_counts_66 : decode cX7_counts 66 = .ok (.aaload, 1) := by decide +kernel
theorem dX7_counts_67 : decode cX7_counts 67 = .ok (.iload 6, 2) := by decide +kernel
theorem dX7_counts_69 : decode cX7_counts 69 = .ok (.aaload, 1) := by decide +kernel
theorem dX7_counts_70 : decode cX7_counts 70 = .ok (.iconst 0, 1) := by decide +kernel
theorem dX7_counts_71 : decode cX7_counts 71 = .ok (.iaload, 1) := by decide +kernel
theorem dX7_counts_72 : decode cX7_counts 72 = .ok (.iconst 2, 1) := by decide +kernel
theorem dX7_counts_73 : decode cX7_counts 73 = .ok (.if_icmp .eq 6, 3) := by decide +kernel
theorem dX7_counts_76 : decode cX7_counts 76 = .ok (.goto 84, 3) := by decide +kernel
theorem dX7_counts_79 : decode cX7_counts 79 = .ok (.iinc 2 1, 3) := by decide +kernel
theorem dX7_counts_82 : decode cX7_counts 82 = .ok (.aload 4, 2) := by decide +kernel
theorem dX7_counts_84 : decode cX7_counts 84 = .ok (.iload 5, 2) := by decide +kernel
theorem dX7_counts_86 : decode cX7_counts 86 = .ok (.aaload, 1) := by decide +kernel
theorem dX7_counts_87 : decode cX7_counts 87 = .ok (.iload 6, 2) := by decide +kernel
theorem dX7_counts_89 : decode cX7_counts 89 = .ok (.baload, 1) := by decide +kernel
theorem dX7_counts_90 : decode cX7_counts 90 = .ok (.ifCond .eq 6, 3) := by decide +kernel
theorem dX7_counts_93 : decode cX7_counts 93 = .ok (.goto 67, 3) := by decide +kernel
theorem dX7_counts_96 : decode cX7_counts 96 = .ok (.iinc 3 1, 3) := by decide +kernel
theorem dX7_counts_99 : decode cX7_counts 99 = .ok (.aload_n 0, 1) := by decide +kernel
theorem dX7_counts_100 : decode cX7_counts 100 = .ok (.iload 6, 2) := by decide +kernel
theorem dX7_counts_102 : decode cX7_counts 102 = .ok (.iload 5, 2) := by decide +kernel
theorem dX7_counts_104 : decode cX7_counts 104 = .ok (.invokevirtual 44, 3) := by decide +kernel
theorem dX7_counts_107 : decode cX7_counts 107 = .ok (.astore 7, 2) := by decide +kernel
theorem dX7_counts_109 : decode cX7_counts 109 = .ok (.iconst 0, 1) := by decide +kernel
theorem dX7_counts_110 : decode cX7_counts 110 = .ok (.istore 8, 2) := by decide +kernel
theorem dX7_counts_112 : decode cX7_counts 112 = .ok (.iload 8, 2) := by decide +kernel
theorem dX7_counts_114 : decode cX7_counts 114 = .ok (.bipush 7, 2) := by decide +kernel
theorem dX7_counts_116 : decode cX7_counts 116 = .ok (.if_icmp .ge 44, 3) := by decide +kernel
theorem dX7_counts_119 : decode cX7_counts 119 = .ok (.iconst 0, 1) := by decide +kernel
theorem dX7_counts_120 : decode cX7_counts 120 = .ok (.istore 9, 2) := by decide +kernel
theorem dX7_counts_122 : decode cX7_counts 122 = .ok (.iload 9, 2) := by decide +kernel
theorem dX7_counts_124 : decode cX7_counts 124 = .ok (.bipush 10, 2) := by decide +kernel
theorem dX7_counts_126 : decode cX7_counts 126 = .ok (.if_icmp .ge 28, 3) := by decide +kernel
theorem dX7_counts_129 : decode cX7_counts 129 = .ok (.aload 4, 2) := by decide +kernel
theorem dX7_counts_131 : decode cX7_counts 131 = .ok (.iload 8, 2) := by decide +kernel
theorem dX7_counts_133 : decode cX7_counts 133 = .ok (.aaload, 1) := by decide +kernel
theorem dX7_counts_134 : decode cX7_counts 134 = .ok (.iload 9, 2) := by decide +kernel
theorem dX7_counts_136 : decode cX7_counts 136 = .ok (.dup2, 1) := by decide +kernel
theorem dX7_counts_137 : decode cX7_counts 137 = .ok (.baload, 1) := by decide +kernel
theorem dX7_counts_138 : decode cX7_counts 138 = .ok (.aload 7, 2) := by decide +kernel
theorem dX7_counts_140 : decode cX7_counts 140 = .ok (.iload 8, 2) := by decide +kernel
theorem dX7_counts_142 : decode cX7_counts 142 = .ok (.aaload, 1) := by decide +kernel
theorem dX7_counts_143 : decode cX7_counts 143 = .ok (.iload 9, 2) := by decide +kernel
theorem dX7_counts_145 : decode cX7_counts 145 = .ok (.baload, 1) := by decide +kernel
theorem dX7_counts_146 : decode cX7_counts 146 = .ok (.ior, 1) := by decide +kernel
theorem dX7_counts_147 : decode cX7_counts 147 = .ok (.bastore, 1) := by decide +kernel
theorem dX7_counts_148 : decode cX7_counts 148 = .ok (.iinc 9 1, 3) := by decide +kernel
theorem dX7_counts_151 : decode cX7_counts 151 = .ok (.goto (-29), 3) := by decide +kernel
theorem dX7_counts_154 : decode cX7_counts 154 = .ok (.iinc 8 1, 3) := by decide +kernel
theorem dX7_counts_157 : decode cX7_counts 157 = .ok (.goto (-45), 3) := by decide +kernel
theorem dX7_counts_160 : decode cX7_counts 160 = .ok (.iinc 6 1, 3) := by decide +kernel
theorem dX7_counts_163 : decode cX7_counts 163 = .ok (.goto (-134), 3) := by decide +kernel
theorem dX7_counts_166 : decode cX7_counts 166 = .ok (.iinc 5 1, 3) := by decide +kernel
theorem dX7_counts_169 : decode cX7_counts 169 = .ok (.goto (-150), 3) := by decide +kernel
theorem dX7_counts_172 : decode cX7_counts 172 = .ok (.iconst 0, 1) := by decide +kernel
theorem dX7_counts_173 : decode cX7_counts 173 = .ok (.istore 5, 2) := by decide +kernel
theorem dX7_counts_175 : decode cX7_counts 175 = .ok (.iconst 0, 1) := by decide +kernel
theorem dX7_counts_176 : decode cX7_counts 176 = .ok (.istore 6, 2) := by decide +kernel
theorem dX7_counts_178 : decode cX7_counts 178 = .ok (.aload_n 0, 1) := by decide +kernel
theorem dX7_counts_179 : decode cX7_counts 179 = .ok (.getfield 20, 3) := by decide +kernel
theorem dX7_counts_182 : decode cX7_counts 182 = .ok (.astore 7, 2) := by decide +kernel
theorem dX7_counts_184 : decode cX7_counts 184 = .ok (.aload 7, 2) := by decide +kernel
theorem dX7_counts_186 : decode cX7_counts 186 = .ok (.arraylength, 1) := by decide +kernel
theorem dX7_counts_187 : decode cX7_counts 187 = .ok (.istore 8, 2) := by decide +kernel
theorem dX7_counts_189 : decode cX7_counts 189 = .ok (.iconst 0, 1) := by decide +kernel
theorem dX7_counts_190 : decode cX7_counts 190 = .ok (.istore 9, 2) := by decide +kernel
theorem dX7_counts_192 : decode cX7_counts 192 = .ok (.iload 9, 2) := by decide +kernel
theorem dX7_counts_194 : decode cX7_counts 194 = .ok (.iload 8, 2) := by decide +kernel
theorem dX7_counts_196 : decode cX7_counts 196 = .ok (.if_icmp .ge 47, 3) := by decide +kernel
theorem dX7_counts_199 : decode cX7_counts 199 = .ok (.aload 7, 2) := by decide +kernel
theorem dX7_counts_201 : decode cX7_counts 201 = .ok (.iload 9, 2) := by decide +kernel
theorem dX7_counts_203 : decode cX7_counts 203 = .ok (.aaload, 1) := by decide +kernel
theorem dX7_counts_204 : decode cX7_counts 204 = .ok (.astore 10, 2) := by decide +kernel
theorem dX7_counts_206 : decode cX7_counts 206 = .ok (.iload 5, 2) := by decide +kernel
theorem dX7_counts_208 : decode cX7_counts 208 = .ok (.iconst 1, 1) := by decide +kernel
theorem dX7_counts_209 : decode cX7_counts 209 = .ok (.aload 10, 2) := by decide +kernel
theorem dX7_counts_211 : decode cX7_counts 211 = .ok (.iconst 3, 1) := by decide +kernel
theorem dX7_counts_212 : decode cX7_counts 212 = .ok (.iaload, 1) := by decide +kernel
theorem dX7_counts_213 : decode cX7_counts 213 = .ok (.isub, 1) := by decide +kernel
theorem dX7_counts_214 : decode cX7_counts 214 = .ok (.iadd, 1) := by decide +kernel
theorem dX7_counts_215 : decode cX7_counts 215 = .ok (.istore 5, 2) := by decide +kernel
theorem dX7_counts_217 : decode cX7_counts 217 = .ok (.iload 6, 2) := by decide +kernel
theorem dX7_counts_219 : decode cX7_counts 219 = .ok (.aload 10, 2) := by decide +kernel
theorem dX7_counts_221 : decode cX7_counts 221 = .ok (.iconst 3, 1) := by decide +kernel
theorem dX7_counts_222 : decode cX7_counts 222 = .ok (.iaload, 1) := by decide +kernel
theorem dX7_counts_223 : decode cX7_counts 223 = .ok (.ifCond .ne 10, 3) := by decide +kernel
theorem dX7_counts_226 : decode cX7_counts 226 = .ok (.aload 10, 2) := by decide +kernel
theorem dX7_counts_228 : decode cX7_counts 228 = .ok (.iconst 2, 1) := by decide +kernel
theorem dX7_counts_229 : decode cX7_counts 229 = .ok (.iaload, 1) := by decide +kernel
theorem dX7_counts_230 : decode cX7_counts 230 = .ok (.goto 4, 3) := by decide +kernel
theorem dX7_counts_233 : decode cX7_counts 233 = .ok (.iconst 0, 1) := by decide +kernel
theorem dX7_counts_234 : decode cX7_counts 234 = .ok (.iadd, 1) := by decide +kernel
theorem dX7_counts_235 : decode cX7_counts 235 = .ok (.istore 6, 2) := by decide +kernel
theorem dX7_counts_237 : decode cX7_counts 237 = .ok (.iinc 9 1, 3) := by decide +kernel
theorem dX7_counts_240 : decode cX7_counts 240 = .ok (.goto (-48), 3) := by decide +kernel
theorem dX7_counts_243 : decode cX7_counts 243 = .ok (.iconst 0, 1) := by decide +kernel
theorem dX7_counts_244 : decode cX7_counts 244 = .ok (.istore 7, 2) := by decide +kernel
theorem dX7_counts_246 : decode cX7_counts 246 = .ok (.aload_n 0, 1) := by decide +kernel
theorem dX7_counts_247 : decode cX7_counts 247 = .ok (.getfield 27, 3) := by decide +kernel
theorem dX7_counts_250 : decode cX7_counts 250 = .ok (.astore 8, 2) := by decide +kernel
theorem dX7_counts_252 : decode cX7_counts 252 = .ok (.aload 8, 2) := by decide +kernel
theorem dX7_counts_254 : decode cX7_counts 254 = .ok (.arraylength, 1) := by decide +kernel
theorem dX7_counts_255 : decode cX7_counts 255 = .ok (.istore 9, 2) := by decide +kernel
theorem dX7_counts_257 : decode cX7_counts 257 = .ok (.iconst 0, 1) := by decide +kernel
theorem dX7_counts_258 : decode cX7_counts 258 = .ok (.istore 10, 2) := by decide +kernel
theorem dX7_counts_260 : decode cX7_counts 260 = .ok (.iload 10, 2) := by decide +kernel
theorem dX7_counts_262 : decode cX7_counts 262 = .ok (.iload 9, 2) := by decide +kernel
theorem dX7_counts_264 : decode cX7_counts 264 = .ok (.if_icmp .ge 25, 3) := by decide +kernel
theorem dX7_counts_267 : decode cX7_counts 267 = .ok (.aload 8, 2) := by decide +kernel
theorem dX7_counts_269 : decode cX7_counts 269 = .ok (.iload 10, 2) := by decide +kernel
theorem dX7_counts_271 : decode cX7_counts 271 = .ok (.aaload, 1) := by decide +kernel
theorem dX7_counts_272 : decode cX7_counts 272 = .ok (.astore 11, 2) := by decide +kernel
theorem dX7_counts_274 : decode cX7_counts 274 = .ok (.iload 7, 2) := by decide +kernel
theorem dX7_counts_276 : decode cX7_counts 276 = .ok (.aload 11, 2) := by decide +kernel
theorem dX7_counts_278 : decode cX7_counts 278 = .ok (.iconst 1, 1) := by decide +kernel
theorem dX7_counts_279 : decode cX7_counts 279 = .ok (.iaload, 1) := by decide +kernel
theorem dX7_counts_280 : decode cX7_counts 280 = .ok (.iadd, 1) := by decide +kernel
theorem dX7_counts_281 : decode cX7_counts 281 = .ok (.istore 7, 2) := by decide +kernel
theorem dX7_counts_283 : decode cX7_counts 283 = .ok (.iinc 10 1, 3) := by decide +kernel
theorem dX7_counts_286 : decode cX7_counts 286 = .ok (.goto (-26), 3) := by decide +kernel
theorem dX7_counts_289 : decode cX7_counts 289 = .ok (.bipush 11, 2) := by decide +kernel
theorem dX7_counts_291 : decode cX7_counts 291 = .ok (.newarray .int, 2) := by decide +kernel
theorem dX7_counts_293 : decode cX7_counts 293 = .ok (.dup, 1) := by decide +kernel
theorem dX7_counts_294 : decode cX7_counts 294 = .ok (.iconst 0, 1) := by decide +kernel
theorem dX7_counts_295 : decode cX7_counts 295 = .ok (.aload_n 0, 1) := by decide +kernel
theorem dX7_counts_296 : decode cX7_counts 296 = .ok (.getfield 59, 3) := by decide +kernel
theorem dX7_counts_299 : decode cX7_counts 299 = .ok (.iastore, 1) := by decide +kernel
theorem dX7_counts_300 : decode cX7_counts 300 = .ok (.dup, 1) := by decide +kernel
theorem dX7_counts_301 : decode cX7_counts 301 = .ok (.iconst 1, 1) := by decide +kernel
theorem dX7_counts_302 : decode cX7_counts 302 = .ok (.aload_n 0, 1) := by decide +kernel
theorem dX7_counts_303 : decode cX7_counts 303 = .ok (.getfield 59, 3) := by decide +kernel
theorem dX7_counts_306 : decode cX7_counts 306 = .ok (.bipush 8, 2) := by decide +kernel
theorem dX7_counts_308 : decode cX7_counts 308 = .ok (.irem, 1) := by decide +kernel
theorem dX7_counts_309 : decode cX7_counts 309 = .ok (.iconst 4, 1) := by decide +kernel
theorem dX7_counts_310 : decode cX7_counts 310 = .ok (.if_icmp .ne 7, 3) := by decide +kernel
theorem dX7_counts_313 : decode cX7_counts 313 = .ok (.iconst 1, 1) := by decide +kernel
theorem dX7_counts_314 : decode cX7_counts 314 = .ok (.goto 4, 3) := by decide +kernel
theorem dX7_counts_317 : decode cX7_counts 317 = .ok (.iconst 0, 1) := by decide +kernel
theorem dX7_counts_318 : decode cX7_counts 318 = .ok (.iastore, 1) := by decide +kernel
theorem dX7_counts_319 : decode cX7_counts 319 = .ok (.dup, 1) := by decide +kernel
theorem dX7_counts_320 : decode cX7_counts 320 = .ok (.iconst 2, 1) := by decide +kernel
theorem dX7_counts_321 : decode cX7_counts 321 = .ok (.aload_n 0, 1) := by decide +kernel
theorem dX7_counts_322 : decode cX7_counts 322 = .ok (.getfield 7, 3) := by decide +kernel
theorem dX7_counts_325 : decode cX7_counts 325 = .ok (.iastore, 1) := by decide +kernel
theorem dX7_counts_326 : decode cX7_counts 326 = .ok (.dup, 1) := by decide +kernel
theorem dX7_counts_327 : decode cX7_counts 327 = .ok (.iconst 3, 1) := by decide +kernel
theorem dX7_counts_328 : decode cX7_counts 328 = .ok (.iload_n 1, 1) := by decide +kernel
theorem dX7_counts_329 : decode cX7_counts 329 = .ok (.iastore, 1) := by decide +kernel
theorem dX7_counts_330 : decode cX7_counts 330 = .ok (.dup, 1) := by decide +kernel
theorem dX7_counts_331 : decode cX7_counts 331 = .ok (.iconst 4, 1) := by decide +kernel
theorem dX7_counts_332 : decode cX7_counts 332 = .ok (.iload_n 2, 1) := by decide +kernel
theorem dX7_counts_333 : decode cX7_counts 333 = .ok (.iastore, 1) := by decide +kernel
theorem dX7_counts_334 : decode cX7_counts 334 = .ok (.dup, 1) := by decide +kernel
theorem dX7_counts_335 : decode cX7_counts 335 = .ok (.iconst 5, 1) := by decide +kernel
theorem dX7_counts_336 : decode cX7_counts 336 = .ok (.iload_n 3, 1) := by decide +kernel
theorem dX7_counts_337 : decode cX7_counts 337 = .ok (.iastore, 1) := by decide +kernel
theorem dX7_counts_338 : decode cX7_counts 338 = .ok (.dup, 1) := by decide +kernel
theorem dX7_counts_339 : decode cX7_counts 339 = .ok (.bipush 6, 2) := by decide +kernel
theorem dX7_counts_341 : decode cX7_counts 341 = .ok (.iload 5, 2) := by decide +kernel
theorem dX7_counts_343 : decode cX7_counts 343 = .ok (.iastore, 1) := by decide +kernel
theorem dX7_counts_344 : decode cX7_counts 344 = .ok (.dup, 1) := by decide +kernel
theorem dX7_counts_345 : decode cX7_counts 345 = .ok (.bipush 7, 2) := by decide +kernel
theorem dX7_counts_347 : decode cX7_counts 347 = .ok (.iload 6, 2) := by decide +kernel
theorem dX7_counts_349 : decode cX7_counts 349 = .ok (.iastore, 1) := by decide +kernel
theorem dX7_counts_350 : decode cX7_counts 350 = .ok (.dup, 1) := by decide +kernel
theorem dX7_counts_351 : decode cX7_counts 351 = .ok (.bipush 8, 2) := by decide +kernel
theorem dX7_counts_353 : decode cX7_counts 353 = .ok (.aload_n 0, 1) := by decide +kernel
theorem dX7_counts_354 : decode cX7_counts 354 = .ok (.getfield 24, 3) := by decide +kernel
theorem dX7_counts_357 : decode cX7_counts 357 = .ok (.arraylength, 1) := by decide +kernel
theorem dX7_counts_358 : decode cX7_counts 358 = .ok (.iastore, 1) := by decide +kernel
theorem dX7_counts_359 : decode cX7_counts 359 = .ok (.dup, 1) := by decide +kernel
theorem dX7_counts_360 : decode cX7_counts 360 = .ok (.bipush 9, 2) := by decide +kernel
theorem dX7_counts_362 : decode cX7_counts 362 = .ok (.aload_n 0, 1) := by decide +kernel
theorem dX7_counts_363 : decode cX7_counts 363 = .ok (.getfield 27, 3) := by decide +kernel
theorem dX7_counts_366 : decode cX7_counts 366 = .ok (.arraylength, 1) := by decide +kernel
theorem dX7_counts_367 : decode cX7_counts 367 = .ok (.iastore, 1) := by decide +kernel
theorem dX7_counts_368 : decode cX7_counts 368 = .ok (.dup, 1) := by decide +kernel
theorem dX7_counts_369 : decode cX7_counts 369 = .ok (.bipush 10, 2) := by decide +kernel
theorem dX7_counts_371 : decode cX7_counts 371 = .ok (.iload 7, 2) := by decide +kernel
theorem dX7_counts_373 : decode cX7_counts 373 = .ok (.iastore, 1) := by decide +kernel
theorem dX7_counts_374 : decode cX7_counts 374 = .ok (.astore 8, 2) := by decide +kernel
theorem dX7_counts_376 : decode cX7_counts 376 = .ok (.aload 8, 2) := by decide +kernel
theorem dX7_counts_378 : decode cX7_counts 378 = .ok (.areturn, 1) := by decide +kernel
set_option maxRecDepth 20000 in
theorem ggX7_isSame_X7_pond : GoodIn wsX7_isSame wsX7_pond := goodIn_r _ [10, 11, 12, 1, 285, 286, 287, 288, 289, 290] (by decide +kernel) (by decide +kernel)
set_option maxRecDepth 20000 in
theorem gX7_isSame_X7_pond : GoodIn wsX7_isSame (wsV RX7 44 RX7 yX7_pond wsX7_pond) := goodIn_app (goodIn_of _ (by decide +kernel)) ggX7_isSame_X7_pond
set_option maxRecDepth 20000 in
theorem ggX7_isSame_X7_many : GoodIn wsX7_isSame wsX7_many := goodIn_r _ [15] (by decide +kernel) (by decide +kernel)
set_option maxRecDepth 20000 in
theorem gX7_isSame_X7_many : GoodIn wsX7_isSame (va_wsS RX7 52 yX7_many wsX7_many) := goodIn_app (goodIn_of _ (by decide +kernel)) ggX7_isSame_X7_many
set_option maxRecDepth 20000 in
theorem ggX7_isSame_X7_carpsIn : GoodIn wsX7_isSame wsX7_carpsIn := goodIn_r _ [19, 3, 285, 286, 287, 288, 289, 290] (by decide +kernel) (by decide +kernel)
set_option maxRecDepth 20000 in
theorem gX7_isSame_X7_carpsIn : GoodIn wsX7_isSame (wsV RX7 48 RX7 yX7_carpsIn wsX7_carpsIn) := goodIn_app (goodIn_of _ (by decide +kernel)) ggX7_isSame_X7_carpsIn
set_option maxRecDepth 20000 in
theorem ggX7_isSame_X6_cell : GoodIn wsX7_isSame wsX6_cell := goodIn_ca (goodIn_r _ [24, 25, 26, 27, 28, 23, 29, 30, 31, 32, 33, 34, 35, 36, 37, 38, 39, 40, 41, 42, 43, 44, 45, 46, 47, 48, 49, 50, 51, 52, 53, 54, 55, 56, 57, 58, 59, 60, 61, 62, 63, 64, 65, 66, 67, 68, 69, 70, 71, 72, 73, 74, 75, 291, 292, 293, 294, 295, 296, 297, 298, 299, 300, 301, 302, 303, 304, 305, 306] (by decide +kernel) (by decide +kernel)) (goodIn_sub (fun _ h => List.mem_cons_of_mem _ (List.mem_append_right _ h)) (by decide +kernel))
set_option maxRecDepth 20000 in
theorem gX7_isSame_X6_cell : GoodIn wsX7_isSame (wsV RX7 67 RX6 yX6_cell wsX6_cell) := goodIn_app (goodIn_of _ (by decide +kernel)) ggX7_isSame_X6_cell
set_option maxRecDepth 20000 in
theorem ggX7_isSame_X6_told : GoodIn wsX7_isSame wsX6_told := goodIn_ca (goodIn_r _ [79, 80, 81, 82, 83, 84, 23, 85, 30, 31, 86, 36, 37, 38, 39, 87, 88, 89, 90, 91, 92, 93, 94, 95, 96, 97, 98, 99, 100, 101, 102, 103, 104, 105, 106, 107, 108, 109, 110, 111, 112, 291, 292, 293, 294, 295, 296, 297, 307, 308, 309, 310, 311, 312, 313] (by decide +kernel) (by decide +kernel)) (goodIn_sub (fun _ h => List.mem_cons_of_mem _ (List.mem_append_right _ h)) (by decide +kernel))
set_option maxRecDepth 20000 in
theorem gX7_isSame_X6_told : GoodIn wsX7_isSame (wsV RX7 73 RX6 yX6_told wsX6_told) := goodIn_app (goodIn_of _ (by decide +kernel)) ggX7_isSame_X6_told
set_option maxRecDepth 20000 in
theorem ggX7_isSame_X7_shows : GoodIn wsX7_isSame wsX7_shows := goodIn_r _ [116, 117, 1, 2, 118, 119, 9, 120, 285, 286, 287, 288, 289, 290] (by decide +kernel) (by decide +kernel)
set_option maxRecDepth 20000 in
theorem gX7_isSame_X7_shows : GoodIn wsX7_isSame (wsV RX7 40 RX7 yX7_shows wsX7_shows) := goodIn_app (goodIn_of _ (by decide +kernel)) ggX7_isSame_X7_shows
set_option maxRecDepth 20000 in
theorem ggX7_isSame_X7_beauty : GoodIn wsX7_isSame wsX7_beauty := goodIn_r _ [124, 1, 3, 113, 114, 115, 9, 116, 117, 2, 118, 119, 120, 285, 286, 287, 288, 289, 290] (by decide +kernel) (by decide +kernel)
set_option maxRecDepth 20000 in
theorem gX7_isSame_X7_beauty : GoodIn wsX7_isSame (wsV RX7 55 RX7 yX7_beauty wsX7_beauty) := goodIn_app (goodIn_of _ (by decide +kernel)) ggX7_isSame_X7_beauty
set_option maxRecDepth 20000 in
theorem ggX7_isSame_X6_about : GoodIn wsX7_isSame wsX6_about := goodIn_ca (goodIn_r _ [128, 81, 129, 130, 131, 132, 133, 134, 135, 136, 137, 23, 138, 30, 31, 139, 140, 36, 37, 38, 39, 141, 142, 143, 144, 25, 145, 146, 147, 148, 149, 150, 151, 152, 153, 154, 155, 156, 157, 158, 159, 160, 161, 162, 163, 164, 165, 166, 167, 168, 169, 170, 171, 172, 173, 34, 174, 175, 176, 48, 49, 50, 177, 178, 179, 180, 33, 35, 181, 41, 42, 182, 183, 184, 185, 186, 44, 45, 46, 47, 187, 188, 189, 190, 80, 43, 51, 52, 53, 54, 55, 56, 57, 58, 59, 60, 191, 192, 193, 194, 195, 196, 197, 90, 198, 97, 92, 108, 199, 99, 100, 101, 102, 103, 200, 201, 202, 203, 204, 205, 206, 207, 208, 209, 210, 211, 212, 213, 214, 215, 216, 217, 218, 219, 220, 221, 222, 223, 291, 292, 293, 294, 295, 296, 297, 314, 315, 316, 317, 318, 319, 320, 321, 298, 299, 300, 301, 302, 303, 304, 305, 306, 307, 308, 309, 310, 311, 312, 313, 322, 323] (by decide +kernel) (by decide +kernel)) (goodIn_sub (fun _ h => List.mem_cons_of_mem _ (List.mem_append_right _ h)) (by decide +kernel))
set_option maxRecDepth 20000 in
theorem gX7_isSame_X6_about : GoodIn wsX7_isSame (wsV RX7 77 RX6 yX6_about wsX6_about) := goodIn_app (goodIn_of _ (by decide +kernel)) ggX7_isSame_X6_about
set_option maxRecDepth 20000 in
theorem ggX7_isSame_X6_lines : GoodIn wsX7_isSame wsX6_lines := goodIn_ca (goodIn_r _ [227, 81, 228, 229, 230, 23, 231, 30, 31, 134, 232, 233, 234, 235, 101, 236, 237, 291, 292, 293, 294, 295, 296, 297, 322, 323, 310, 311, 312, 313] (by decide +kernel) (by decide +kernel)) (goodIn_sub (fun _ h => List.mem_cons_of_mem _ (List.mem_append_right _ h)) (by decide +kernel))
set_option maxRecDepth 20000 in
theorem gX7_isSame_X6_lines : GoodIn wsX7_isSame (wsV RX7 80 RX6 yX6_lines wsX6_lines) := goodIn_app (goodIn_of _ (by decide +kernel)) ggX7_isSame_X6_lines
set_option maxRecDepth 20000 in
theorem ggX7_isSame_X7_counts : GoodIn wsX7_isSame wsX7_counts := goodIn_r _ [241, 11, 12, 1, 3, 5, 2, 242, 243, 4, 6, 7, 8, 9, 10, 285, 286, 287, 288, 289, 290] (by decide +kernel) (by decide +kernel)
set_option maxRecDepth 20000 in
theorem gX7_isSame_X7_counts : GoodIn wsX7_isSame (wsV RX7 84 RX7 yX7_counts wsX7_counts) := goodIn_app (goodIn_of _ (by decide +kernel)) ggX7_isSame_X7_counts
set_option maxRecDepth 20000 in
theorem ggX7_isSame_X6_count : GoodIn wsX7_isSame wsX6_count := goodIn_ca (goodIn_r _ [247, 81, 248, 25, 249, 80, 139, 140, 134, 232, 36, 37, 38, 23, 39, 30, 31, 250, 251, 252, 101, 253, 254, 255, 256, 257, 34, 258, 47, 259, 260, 261, 90, 262, 97, 263, 105, 106, 107, 108, 93, 94, 95, 96, 264, 265, 266, 267, 268, 269, 270, 271, 272, 199, 99, 100, 102, 103, 273, 274, 275, 276, 237, 291, 292, 293, 294, 295, 296, 297, 310, 311, 312, 313, 298, 299, 300, 301, 302, 303, 304, 305, 306, 319, 320, 321, 322, 323, 307, 308, 309] (by decide +kernel) (by decide +kernel)) (goodIn_sub (fun _ h => List.mem_cons_of_mem _ (List.mem_append_right _ h)) (by decide +kernel))
set_option maxRecDepth 20000 in
theorem gX7_isSame_X6_count : GoodIn wsX7_isSame (wsV RX7 88 RX6 yX6_count wsX6_count) := goodIn_app (goodIn_of _ (by decide +kernel)) ggX7_isSame_X6_count
set_option maxRecDepth 20000 in
theorem ggX7_isSame_X6_finest : GoodIn wsX7_isSame wsX6_finest := goodIn_r _ [280, 139, 140, 81, 141, 142, 143, 23, 144, 129, 25, 133, 145, 146, 147, 148, 149, 150, 151, 152, 153, 154, 155, 156, 157, 158, 159, 160, 161, 162, 163, 164, 165, 166, 167, 168, 169, 170, 171, 172, 173, 34, 174, 175, 176, 48, 49, 50, 177, 178, 179, 180, 33, 35, 181, 41, 42, 182, 183, 184, 185, 186, 44, 45, 46, 47, 187, 188, 189, 190, 130, 80, 43, 51, 52, 53, 54, 55, 56, 57, 58, 59, 60, 191, 192, 193, 194, 195, 196, 197, 90, 198, 97, 92, 108, 199, 99, 100, 101, 102, 103, 200, 201, 202, 203, 204, 205, 206, 207, 208, 291, 292, 293, 294, 295, 296, 297, 319, 320, 321, 314, 315, 316, 317, 318, 298, 299, 300, 301, 302, 303, 304, 305, 306, 307, 308, 309, 310, 311, 312, 313] (by decide +kernel) (by decide +kernel)
set_option maxRecDepth 20000 in
theorem gX7_isSame_X6_finest : GoodIn wsX7_isSame (wsV RX7 91 RX6 yX6_finest wsX6_finest) := goodIn_app (goodIn_of _ (by decide +kernel)) ggX7_isSame_X6_finest
set_option maxRecDepth 20000 in
theorem ggX7_isSame_X6_mean : GoodIn wsX7_isSame wsX6_mean := goodIn_r _ [284, 139, 140, 81, 141, 142, 143, 23, 144, 129, 25, 133, 145, 146, 147, 148, 149, 150, 151, 152, 153, 154, 155, 156, 157, 158, 159, 160, 161, 162, 163, 164, 165, 166, 167, 168, 169, 170, 171, 172, 173, 34, 174, 175, 176, 48, 49, 50, 177, 178, 179, 180, 33, 35, 181, 41, 42, 182, 183, 184, 185, 186, 44, 45, 46, 47, 187, 188, 189, 190, 130, 80, 43, 51, 52, 53, 54, 55, 56, 57, 58, 59, 60, 191, 192, 193, 194, 195, 196, 197, 90, 198, 97, 92, 108, 199, 99, 100, 101, 102, 103, 200, 201, 202, 203, 204, 205, 206, 207, 208, 291, 292, 293, 294, 295, 296, 297, 319, 320, 321, 314, 315, 316, 317, 318, 298, 299, 300, 301, 302, 303, 304, 305, 306, 307, 308, 309, 310, 311, 312, 313] (by decide +kernel) (by decide +kernel)
set_option maxRecDepth 20000 in
theorem gX7_isSame_X6_mean : GoodIn wsX7_isSame (wsV RX7 95 RX6 yX6_mean wsX6_mean) := goodIn_app (goodIn_of _ (by decide +kernel)) ggX7_isSame_X6_mean
theorem dX7_isSame_0 : decode cX7_isSame 0 = .ok (.iconst 0, 1) := by decide +kernel
theorem dX7_isSame_1 : decode cX7_isSame 1 = .ok (.istore_n 2, 1) := by decide +kernel
theorem dX7_isSame_2 : decode cX7_isSame 2 = .ok (.iload_n 2, 1) := by decide +kernel
theorem dX7_isSame_3 : decode cX7_isSame 3 = .ok (.bipush 7, 2) := by decide +kernel
theorem dX7_isSame_5 : decode cX7_isSame 5 = .ok (.if_icmp .ge 141, 3) := by decide +kernel
theorem dX7_isSame_8 : decode cX7_isSame 8 = .ok (.iconst 0, 1) := by decide +kernel
theorem dX7_isSame_9 : decode cX7_isSame 9 = .ok (.istore_n 3, 1) := by decide +kernel
theorem dX7_isSame_10 : decode cX7_isSame 10 = .ok (.iload_n 3, 1) := by decide +kernel
theorem dX7_isSame_11 : decode cX7_isSame 11 = .ok (.bipush 10, 2) := by decide +kernel
theorem dX7_isSame_13 : decode cX7_isSame 13 = .ok (.if_icmp .ge 127, 3) := by decide +kernel
theorem dX7_isSame_16 : decode cX7_isSame 16 = .ok (.aload_n 0, 1) := by decide +kernel
theorem dX7_isSame_17 : decode cX7_isSame 17 = .ok (.getfield 15, 3) := by decide +kernel
theorem dX7_isSame_20 : decode cX7_isSame 20 = .ok (.iload_n 2, 1) := by decide +kernel
theorem dX7_isSame_21 : decode cX7_isSame 21 = .ok (.aaload, 1) := by decide +kernel
theorem dX7_isSame_22 : decode cX7_isSame 22 = .ok (.iload_n 3, 1) := by decide +kernel
theorem dX7_isSame_23 : decode cX7_isSame 23 = .ok (.aaload, 1) := by decide +kernel
theorem dX7_isSame_24 : decode cX7_isSame 24 = .ok (.astore 4, 2) := by decide +kernel
theorem dX7_isSame_26 : decode cX7_isSame 26 = .ok (.aload_n 0, 1) := by decide +kernel
theorem dX7_isSame_27 : decode cX7_isSame 27 = .ok (.iload_n 3, 1) := by decide +kernel
theorem dX7_isSame_28 : decode cX7_isSame 28 = .ok (.iload_n 2, 1) := by decide +kernel
theorem dX7_isSame_29 : decode cX7_isSame 29 = .ok (.invokevirtual 44, 3) := by decide +kernel
theorem dX7_isSame_32 : decode cX7_isSame 32 = .ok (.astore 5, 2) := by decide +kernel
theorem dX7_isSame_34 : decode cX7_isSame 34 = .ok (.iconst 5, 1) := by decide +kernel
theorem dX7_isSame_35 : decode cX7_isSame 35 = .ok (.newarray .int, 2) := by decide +kernel
theorem dX7_isSame_37 : decode cX7_isSame 37 = .ok (.dup, 1) := by decide +kernel
theorem dX7_isSame_38 : decode cX7_isSame 38 = .ok (.iconst 0, 1) := by decide +kernel
theorem dX7_isSame_39 : decode cX7_isSame 39 = .ok (.aload 4, 2) := by decide +kernel
theorem dX7_isSame_41 : decode cX7_isSame 41 = .ok (.iconst 0, 1) := by decide +kernel
theorem dX7_isSame_42 : decode cX7_isSame 42 = .ok (.iaload, 1) := by decide +kernel
theorem dX7_isSame_43 : decode cX7_isSame 43 = .ok (.iastore, 1) := by decide +kernel
theorem dX7_isSame_44 : decode cX7_isSame 44 = .ok (.dup, 1) := by decide +kernel
theorem dX7_isSame_45 : decode cX7_isSame 45 = .ok (.iconst 1, 1) := by decide +kernel
theorem dX7_isSame_46 : decode cX7_isSame 46 = .ok (.aload 4, 2) := by decide +kernel
theorem dX7_isSame_48 : decode cX7_isSame 48 = .ok (.iconst 0, 1) := by decide +kernel
theorem dX7_isSame_49 : decode cX7_isSame 49 = .ok (.iaload, 1) := by decide +kernel
theorem dX7_isSame_50 : decode cX7_isSame 50 = .ok (.iconst 1, 1) := by decide +kernel
theorem dX7_isSame_51 : decode cX7_isSame 51 = .ok (.if_icmp .ne 10, 3) := by decide +kernel
theorem dX7_isSame_54 : decode cX7_isSame 54 = .ok (.aload 4, 2) := by decide +kernel
theorem dX7_isSame_56 : decode cX7_isSame 56 = .ok (.iconst 1, 1) := by decide +kernel
theorem dX7_isSame_57 : decode cX7_isSame 57 = .ok (.iaload, 1) := by decide +kernel
theorem dX7_isSame_58 : decode cX7_isSame 58 = .ok (.goto 4, 3) := by decide +kernel
theorem dX7_isSame_61 : decode cX7_isSame 61 = .ok (.iconst (-1), 1) := by decide +kernel
theorem dX7_isSame_62 : decode cX7_isSame 62 = .ok (.iastore, 1) := by decide +kernel
theorem dX7_isSame_63 : decode cX7_isSame 63 = .ok (.dup, 1) := by decide +kernel
theorem dX7_isSame_64 : decode cX7_isSame 64 = .ok (.iconst 2, 1) := by decide +kernel
theorem dX7_isSame_65 : decode cX7_isSame 65 = .ok (.aload 4, 2) := by decide +kernel
theorem dX7_isSame_67 : decode cX7_isSame 67 = .ok (.iconst 0, 1) := by decide +kernel
theorem dX7_isSame_68 : decode cX7_isSame 68 = .ok (.iaload, 1) := by decide +kernel
theorem dX7_isSame_69 : decode cX7_isSame 69 = .ok (.iconst 1, 1) := by decide +kernel
theorem dX7_isSame_70 : decode cX7_isSame 70 = .ok (.if_icmp .ne 10, 3) := by decide +kernel
theorem dX7_isSame_73 : decode cX7_isSame 73 = .ok (.aload 4, 2) := by decide +kernel
theorem dX7_isSame_75 : decode cX7_isSame 75 = .ok (.iconst 2, 1) := by decide +kernel
theorem dX7_isSame_76 : decode cX7_isSame 76 = .ok (.iaload, 1) := by decide +kernel
theorem dX7_isSame_77 : decode cX7_isSame 77 = .ok (.goto 4, 3) := by decide +kernel
theorem dX7_isSame_80 : decode cX7_isSame 80 = .ok (.iconst 0, 1) := by decide +kernel
theorem dX7_isSame_81 : decode cX7_isSame 81 = .ok (.iastore, 1) := by decide +kernel
theorem dX7_isSame_82 : decode cX7_isSame 82 = .ok (.dup, 1) := by decide +kernel
theorem dX7_isSame_83 : decode cX7_isSame 83 = .ok (.iconst 3, 1) := by decide +kernel
theorem dX7_isSame_84 : decode cX7_isSame 84 = .ok (.aload 5, 2) := by decide +kernel
theorem dX7_isSame_86 : decode cX7_isSame 86 = .ok (.invokestatic 52, 3) := by decide +kernel
theorem dX7_isSame_89 : decode cX7_isSame 89 = .ok (.iastore, 1) := by decide +kernel
theorem dX7_isSame_90 : decode cX7_isSame 90 = .ok (.dup, 1) := by decide +kernel
theorem dX7_isSame_91 : decode cX7_isSame 91 = .ok (.iconst 4, 1) := by decide +kernel
theorem dX7_isSame_92 : decode cX7_isSame 92 = .ok (.aload_n 0, 1) := by decide +kernel
theorem dX7_isSame_93 : decode cX7_isSame 93 = .ok (.aload 5, 2) := by decide +kernel
theorem dX7_isSame_95 : decode cX7_isSame 95 = .ok (.invokevirtual 48, 3) := by decide +kernel
theorem dX7_isSame_98 : decode cX7_isSame 98 = .ok (.iastore, 1) := by decide +kernel
theorem dX7_isSame_99 : decode cX7_isSame 99 = .ok (.astore 6, 2) := by decide +kernel
theorem dX7_isSame_101 : decode cX7_isSame 101 = .ok (.iconst 0, 1) := by decide +kernel
theorem dX7_isSame_102 : decode cX7_isSame 102 = .ok (.istore 7, 2) := by decide +kernel
theorem dX7_isSame_104 : decode cX7_isSame 104 = .ok (.iload 7, 2) := by decide +kernel
theorem dX7_isSame_106 : decode cX7_isSame 106 = .ok (.iconst 5, 1) := by decide +kernel
theorem dX7_isSame_107 : decode cX7_isSame 107 = .ok (.if_icmp .ge 27, 3) := by decide +kernel
theorem dX7_isSame_110 : decode cX7_isSame 110 = .ok (.aload_n 1, 1) := by decide +kernel
theorem dX7_isSame_111 : decode cX7_isSame 111 = .ok (.iload_n 3, 1) := by decide +kernel
theorem dX7_isSame_112 : decode cX7_isSame 112 = .ok (.iload_n 2, 1) := by decide +kernel
theorem dX7_isSame_113 : decode cX7_isSame 113 = .ok (.iload 7, 2) := by decide +kernel
theorem dX7_isSame_115 : decode cX7_isSame 115 = .ok (.invokevirtual 67, 3) := by decide +kernel
theorem dX7_isSame_118 : decode cX7_isSame 118 = .ok (.aload 6, 2) := by decide +kernel
theorem dX7_isSame_120 : decode cX7_isSame 120 = .ok (.iload 7, 2) := by decide +kernel
theorem dX7_isSame_122 : decode cX7_isSame 122 = .ok (.iaload, 1) := by decide +kernel
theorem dX7_isSame_123 : decode cX7_isSame 123 = .ok (.if_icmp .eq 5, 3) := by decide +kernel
theorem dX7_isSame_126 : decode cX7_isSame 126 = .ok (.iconst 0, 1) := by decide +kernel
theorem dX7_isSame_127 : decode cX7_isSame 127 = .ok (.ireturn, 1) := by decide +kernel
theorem dX7_isSame_128 : decode cX7_isSame 128 = .ok (.iinc 7 1, 3) := by decide +kernel
theorem dX7_isSame_131 : decode cX7_isSame 131 = .ok (.goto (-27), 3) := by decide +kernel
theorem dX7_isSame_134 : decode cX7_isSame 134 = .ok (.iinc 3 1, 3) := by decide +kernel
theorem dX7_isSame_137 : decode cX7_isSame 137 = .ok (.goto (-127), 3) := by decide +kernel
theorem dX7_isSame_140 : decode cX7_isSame 140 = .ok (.iinc 2 1, 3) := by decide +kernel
theorem dX7_isSame_143 : decode cX7_isSame 143 = .ok (.goto (-141), 3) := by decide +kernel
theorem dX7_isSame_146 : decode cX7_isSame 146 = .ok (.iconst 0, 1) := by decide +kernel
theorem dX7_isSame_147 : decode cX7_isSame 147 = .ok (.istore_n 2, 1) := by decide +kernel
theorem dX7_isSame_148 : decode cX7_isSame 148 = .ok (.iload_n 2, 1) := by decide +kernel
theorem dX7_isSame_149 : decode cX7_isSame 149 = .ok (.aload_n 0, 1) := by decide +kernel
theorem dX7_isSame_150 : decode cX7_isSame 150 = .ok (.getfield 20, 3) := by decide +kernel
theorem dX7_isSame_153 : decode cX7_isSame 153 = .ok (.arraylength, 1) := by decide +kernel
theorem dX7_isSame_154 : decode cX7_isSame 154 = .ok (.if_icmp .ge 157, 3) := by decide +kernel
theorem dX7_isSame_157 : decode cX7_isSame 157 = .ok (.aload_n 0, 1) := by decide +kernel
theorem dX7_isSame_158 : decode cX7_isSame 158 = .ok (.getfield 20, 3) := by decide +kernel
theorem dX7_isSame_161 : decode cX7_isSame 161 = .ok (.iload_n 2, 1) := by decide +kernel
theorem dX7_isSame_162 : decode cX7_isSame 162 = .ok (.aaload, 1) := by decide +kernel
theorem dX7_isSame_163 : decode cX7_isSame 163 = .ok (.astore_n 3, 1) := by decide +kernel
theorem dX7_isSame_164 : decode cX7_isSame 164 = .ok (.iconst 1, 1) := by decide +kernel
theorem dX7_isSame_165 : decode cX7_isSame 165 = .ok (.istore 4, 2) := by decide +kernel
theorem dX7_isSame_167 : decode cX7_isSame 167 = .ok (.aload_n 0, 1) := by decide +kernel
theorem dX7_isSame_168 : decode cX7_isSame 168 = .ok (.getfield 20, 3) := by decide +kernel
theorem dX7_isSame_171 : decode cX7_isSame 171 = .ok (.astore 5, 2) := by decide +kernel
theorem dX7_isSame_173 : decode cX7_isSame 173 = .ok (.aload 5, 2) := by decide +kernel
theorem dX7_isSame_175 : decode cX7_isSame 175 = .ok (.arraylength, 1) := by decide +kernel
theorem dX7_isSame_176 : decode cX7_isSame 176 = .ok (.istore 6, 2) := by decide +kernel
theorem dX7_isSame_178 : decode cX7_isSame 178 = .ok (.iconst 0, 1) := by decide +kernel
theorem dX7_isSame_179 : decode cX7_isSame 179 = .ok (.istore 7, 2) := by decide +kernel
theorem dX7_isSame_181 : decode cX7_isSame 181 = .ok (.iload 7, 2) := by decide +kernel
theorem dX7_isSame_183 : decode cX7_isSame 183 = .ok (.iload 6, 2) := by decide +kernel
theorem dX7_isSame_185 : decode cX7_isSame 185 = .ok (.if_icmp .ge 43, 3) := by decide +kernel
theorem dX7_isSame_188 : decode cX7_isSame 188 = .ok (.aload 5, 2) := by decide +kernel
theorem dX7_isSame_190 : decode cX7_isSame 190 = .ok (.iload 7, 2) := by decide +kernel
theorem dX7_isSame_192 : decode cX7_isSame 192 = .ok (.aaload, 1) := by decide +kernel
theorem dX7_isSame_193 : decode cX7_isSame 193 = .ok (.astore 8, 2) := by decide +kernel
theorem dX7_isSame_195 : decode cX7_isSame 195 = .ok (.iload 4, 2) := by decide +kernel
theorem dX7_isSame_197 : decode cX7_isSame 197 = .ok (.aload 8, 2) := by decide +kernel
theorem dX7_isSame_199 : decode cX7_isSame 199 = .ok (.iconst 3, 1) := by decide +kernel
theorem dX7_isSame_200 : decode cX7_isSame 200 = .ok (.iaload, 1) := by decide +kernel
theorem dX7_isSame_201 : decode cX7_isSame 201 = .ok (.ifCond .ne 17, 3) := by decide +kernel
theorem dX7_isSame_204 : decode cX7_isSame 204 = .ok (.aload 8, 2) := by decide +kernel
theorem dX7_isSame_206 : decode cX7_isSame 206 = .ok (.iconst 2, 1) := by decide +kernel
theorem dX7_isSame_207 : decode cX7_isSame 207 = .ok (.iaload, 1) := by decide +kernel
theorem dX7_isSame_208 : decode cX7_isSame 208 = .ok (.aload_n 3, 1) := by decide +kernel
theorem dX7_isSame_209 : decode cX7_isSame 209 = .ok (.iconst 2, 1) := by decide +kernel
theorem dX7_isSame_210 : decode cX7_isSame 210 = .ok (.iaload, 1) := by decide +kernel
theorem dX7_isSame_211 : decode cX7_isSame 211 = .ok (.if_icmp .le 7, 3) := by decide +kernel
theorem dX7_isSame_214 : decode cX7_isSame 214 = .ok (.iconst 1, 1) := by decide +kernel
theorem dX7_isSame_215 : decode cX7_isSame 215 = .ok (.goto 4, 3) := by decide +kernel
theorem dX7_isSame_218 : decode cX7_isSame 218 = .ok (.iconst 0, 1) := by decide +kernel
theorem dX7_isSame_219 : decode cX7_isSame 219 = .ok (.iadd, 1) := by decide +kernel
theorem dX7_isSame_220 : decode cX7_isSame 220 = .ok (.istore 4, 2) := by decide +kernel
theorem dX7_isSame_222 : decode cX7_isSame 222 = .ok (.iinc 7 1, 3) := by decide +kernel
theorem dX7_isSame_225 : decode cX7_isSame 225 = .ok (.goto (-44), 3) := by decide +kernel
theorem dX7_isSame_228 : decode cX7_isSame 228 = .ok (.iconst 5, 1) := by decide +kernel
theorem dX7_isSame_229 : decode cX7_isSame 229 = .ok (.newarray .int, 2) := by decide +kernel
theorem dX7_isSame_231 : decode cX7_isSame 231 = .ok (.dup, 1) := by decide +kernel
theorem dX7_isSame_232 : decode cX7_isSame 232 = .ok (.iconst 0, 1) := by decide +kernel
theorem dX7_isSame_233 : decode cX7_isSame 233 = .ok (.aload_n 3, 1) := by decide +kernel
theorem dX7_isSame_234 : decode cX7_isSame 234 = .ok (.iconst 0, 1) := by decide +kernel
theorem dX7_isSame_235 : decode cX7_isSame 235 = .ok (.iaload, 1) := by decide +kernel
theorem dX7_isSame_236 : decode cX7_isSame 236 = .ok (.iastore, 1) := by decide +kernel
theorem dX7_isSame_237 : decode cX7_isSame 237 = .ok (.dup, 1) := by decide +kernel
theorem dX7_isSame_238 : decode cX7_isSame 238 = .ok (.iconst 1, 1) := by decide +kernel
theorem dX7_isSame_239 : decode cX7_isSame 239 = .ok (.aload_n 3, 1) := by decide +kernel
theorem dX7_isSame_240 : decode cX7_isSame 240 = .ok (.iconst 1, 1) := by decide +kernel
theorem dX7_isSame_241 : decode cX7_isSame 241 = .ok (.iaload, 1) := by decide +kernel
theorem dX7_isSame_242 : decode cX7_isSame 242 = .ok (.iastore, 1) := by decide +kernel
theorem dX7_isSame_243 : decode cX7_isSame 243 = .ok (.dup, 1) := by decide +kernel
theorem dX7_isSame_244 : decode cX7_isSame 244 = .ok (.iconst 2, 1) := by decide +kernel
theorem dX7_isSame_245 : decode cX7_isSame 245 = .ok (.aload_n 3, 1) := by decide +kernel
theorem dX7_isSame_246 : decode cX7_isSame 246 = .ok (.iconst 2, 1) := by decide +kernel
theorem dX7_isSame_247 : decode cX7_isSame 247 = .ok (.iaload, 1) := by decide +kernel
theorem dX7_isSame_248 : decode cX7_isSame 248 = .ok (.iastore, 1) := by decide +kernel
theorem dX7_isSame_249 : decode cX7_isSame 249 = .ok (.dup, 1) := by decide +kernel
theorem dX7_isSame_250 : decode cX7_isSame 250 = .ok (.iconst 3, 1) := by decide +kernel
theorem dX7_isSame_251 : decode cX7_isSame 251 = .ok (.aload_n 3, 1) := by decide +kernel
theorem dX7_isSame_252 : decode cX7_isSame 252 = .ok (.iconst 3, 1) := by decide +kernel
theorem dX7_isSame_253 : decode cX7_isSame 253 = .ok (.iaload, 1) := by decide +kernel
theorem dX7_isSame_254 : decode cX7_isSame 254 = .ok (.iastore, 1) := by decide +kernel
theorem dX7_isSame_255 : decode cX7_isSame 255 = .ok (.dup, 1) := by decide +kernel
theorem dX7_isSame_256 : decode cX7_isSame 256 = .ok (.iconst 4, 1) := by decide +kernel
theorem dX7_isSame_257 : decode cX7_isSame 257 = .ok (.aload_n 3, 1) := by decide +kernel
theorem dX7_isSame_258 : decode cX7_isSame 258 = .ok (.iconst 3, 1) := by decide +kernel
theorem dX7_isSame_259 : decode cX7_isSame 259 = .ok (.iaload, 1) := by decide +kernel
theorem dX7_isSame_260 : decode cX7_isSame 260 = .ok (.iconst 1, 1) := by decide +kernel
theorem dX7_isSame_261 : decode cX7_isSame 261 = .ok (.if_icmp .ne 7, 3) := by decide +kernel
theorem dX7_isSame_264 : decode cX7_isSame 264 = .ok (.iconst 0, 1) := by decide +kernel
theorem dX7_isSame_265 : decode cX7_isSame 265 = .ok (.goto 5, 3) := by decide +kernel
theorem dX7_isSame_268 : decode cX7_isSame 268 = .ok (.iload 4, 2) := by decide +kernel
theorem dX7_isSame_270 : decode cX7_isSame 270 = .ok (.iastore, 1) := by decide +kernel
theorem dX7_isSame_271 : decode cX7_isSame 271 = .ok (.astore 5, 2) := by decide +kernel
theorem dX7_isSame_273 : decode cX7_isSame 273 = .ok (.iconst 0, 1) := by decide +kernel
theorem dX7_isSame_274 : decode cX7_isSame 274 = .ok (.istore 6, 2) := by decide +kernel
theorem dX7_isSame_276 : decode cX7_isSame 276 = .ok (.iload 6, 2) := by decide +kernel
theorem dX7_isSame_278 : decode cX7_isSame 278 = .ok (.iconst 5, 1) := by decide +kernel
theorem dX7_isSame_279 : decode cX7_isSame 279 = .ok (.if_icmp .ge 26, 3) := by decide +kernel
theorem dX7_isSame_282 : decode cX7_isSame 282 = .ok (.aload_n 1, 1) := by decide +kernel
theorem dX7_isSame_283 : decode cX7_isSame 283 = .ok (.iload_n 2, 1) := by decide +kernel
theorem dX7_isSame_284 : decode cX7_isSame 284 = .ok (.iload 6, 2) := by decide +kernel
theorem dX7_isSame_286 : decode cX7_isSame 286 = .ok (.invokevirtual 73, 3) := by decide +kernel
theorem dX7_isSame_289 : decode cX7_isSame 289 = .ok (.aload 5, 2) := by decide +kernel
theorem dX7_isSame_291 : decode cX7_isSame 291 = .ok (.iload 6, 2) := by decide +kernel
theorem dX7_isSame_293 : decode cX7_isSame 293 = .ok (.iaload, 1) := by decide +kernel
theorem dX7_isSame_294 : decode cX7_isSame 294 = .ok (.if_icmp .eq 5, 3) := by decide +kernel
theorem dX7_isSame_297 : decode cX7_isSame 297 = .ok (.iconst 0, 1) := by decide +kernel
theorem dX7_isSame_298 : decode cX7_isSame 298 = .ok (.ireturn, 1) := by decide +kernel
theorem dX7_isSame_299 : decode cX7_isSame 299 = .ok (.iinc 6 1, 3) := by decide +kernel
theorem dX7_isSame_302 : decode cX7_isSame 302 = .ok (.goto (-26), 3) := by decide +kernel
theorem dX7_isSame_305 : decode cX7_isSame 305 = .ok (.iinc 2 1, 3) := by decide +kernel
theorem dX7_isSame_308 : decode cX7_isSame 308 = .ok (.goto (-160), 3) := by decide +kernel
theorem dX7_isSame_311 : decode cX7_isSame 311 = .ok (.iconst 0, 1) := by decide +kernel
theorem dX7_isSame_312 : decode cX7_isSame 312 = .ok (.istore_n 2, 1) := by decide +kernel
theorem dX7_isSame_313 : decode cX7_isSame 313 = .ok (.iconst (-1), 1) := by decide +kernel
theorem dX7_isSame_314 : decode cX7_isSame 314 = .ok (.istore_n 3, 1) := by decide +kernel
theorem dX7_isSame_315 : decode cX7_isSame 315 = .ok (.aload_n 0, 1) := by decide +kernel
theorem dX7_isSame_316 : decode cX7_isSame 316 = .ok (.getfield 24, 3) := by decide +kernel
theorem dX7_isSame_319 : decode cX7_isSame 319 = .ok (.arraylength, 1) := by decide +kernel
theorem dX7_isSame_320 : decode cX7_isSame 320 = .ok (.iconst 1, 1) := by decide +kernel
theorem dX7_isSame_321 : decode cX7_isSame 321 = .ok (.isub, 1) := by decide +kernel
theorem dX7_isSame_322 : decode cX7_isSame 322 = .ok (.istore 4, 2) := by decide +kernel
theorem dX7_isSame_324 : decode cX7_isSame 324 = .ok (.iload 4, 2) := by decide +kernel
theorem dX7_isSame_326 : decode cX7_isSame 326 = .ok (.ifCond .lt 280, 3) := by decide +kernel
theorem dX7_isSame_329 : decode cX7_isSame 329 = .ok (.aload_n 0, 1) := by decide +kernel
theorem dX7_isSame_330 : decode cX7_isSame 330 = .ok (.aload_n 0, 1) := by decide +kernel
theorem dX7_isSame_331 : decode cX7_isSame 331 = .ok (.getfield 24, 3) := by decide +kernel
theorem dX7_isSame_334 : decode cX7_isSame 334 = .ok (.iload 4, 2) := by decide +kernel
theorem dX7_isSame_336 : decode cX7_isSame 336 = .ok (.aaload, 1) := by decide +kernel
theorem dX7_isSame_337 : decode cX7_isSame 337 = .ok (.invokevirtual 40, 3) := by decide +kernel
theorem dX7_isSame_340 : decode cX7_isSame 340 = .ok (.astore 5, 2) := by decide +kernel
theorem dX7_isSame_342 : decode cX7_isSame 342 = .ok (.iconst 0, 1) := by decide +kernel
theorem dX7_isSame_343 : decode cX7_isSame 343 = .ok (.istore 6, 2) := by decide +kernel
theorem dX7_isSame_345 : decode cX7_isSame 345 = .ok (.iconst 0, 1) := by decide +kernel
theorem dX7_isSame_346 : decode cX7_isSame 346 = .ok (.istore 7, 2) := by decide +kernel
theorem dX7_isSame_348 : decode cX7_isSame 348 = .ok (.aload 5, 2) := by decide +kernel
theorem dX7_isSame_350 : decode cX7_isSame 350 = .ok (.astore 8, 2) := by decide +kernel
theorem dX7_isSame_352 : decode cX7_isSame 352 = .ok (.aload 8, 2) := by decide +kernel
theorem dX7_isSame_354 : decode cX7_isSame 354 = .ok (.arraylength, 1) := by decide +kernel
theorem dX7_isSame_355 : decode cX7_isSame 355 = .ok (.istore 9, 2) := by decide +kernel
theorem dX7_isSame_357 : decode cX7_isSame 357 = .ok (.iconst 0, 1) := by decide +kernel
theorem dX7_isSame_358 : decode cX7_isSame 358 = .ok (.istore 10, 2) := by decide +kernel
theorem dX7_isSame_360 : decode cX7_isSame 360 = .ok (.iload 10, 2) := by decide +kernel
theorem dX7_isSame_362 : decode cX7_isSame 362 = .ok (.iload 9, 2) := by decide +kernel
theorem dX7_isSame_364 : decode cX7_isSame 364 = .ok (.if_icmp .ge 76, 3) := by decide +kernel
theorem dX7_isSame_367 : decode cX7_isSame 367 = .ok (.aload 8, 2) := by decide +kernel
theorem dX7_isSame_369 : decode cX7_isSame 369 = .ok (.iload 10, 2) := by decide +kernel
theorem dX7_isSame_371 : decode cX7_isSame 371 = .ok (.aaload, 1) := by decide +kernel
theorem dX7_isSame_372 : decode cX7_isSame 372 = .ok (.astore 11, 2) := by decide +kernel
theorem dX7_isSame_374 : decode cX7_isSame 374 = .ok (.iload 6, 2) := by decide +kernel
theorem dX7_isSame_376 : decode cX7_isSame 376 = .ok (.aload_n 0, 1) := by decide +kernel
theorem dX7_isSame_377 : decode cX7_isSame 377 = .ok (.getfield 15, 3) := by decide +kernel
theorem dX7_isSame_380 : decode cX7_isSame 380 = .ok (.aload 11, 2) := by decide +kernel
theorem dX7_isSame_382 : decode cX7_isSame 382 = .ok (.iconst 1, 1) := by decide +kernel
theorem dX7_isSame_383 : decode cX7_isSame 383 = .ok (.iaload, 1) := by decide +kernel
theorem dX7_isSame_384 : decode cX7_isSame 384 = .ok (.aaload, 1) := by decide +kernel
theorem dX7_isSame_385 : decode cX7_isSame 385 = .ok (.aload 11, 2) := by decide +kernel
theorem dX7_isSame_387 : decode cX7_isSame 387 = .ok (.iconst 0, 1) := by decide +kernel
theorem dX7_isSame_388 : decode cX7_isSame 388 = .ok (.iaload, 1) := by decide +kernel
theorem dX7_isSame_389 : decode cX7_isSame 389 = .ok (.aaload, 1) := by decide +kernel
theorem dX7_isSame_390 : decode cX7_isSame 390 = .ok (.iconst 0, 1) := by decide +kernel
theorem dX7_isSame_391 : decode cX7_isSame 391 = .ok (.iaload, 1) := by decide +kernel
theorem dX7_isSame_392 : decode cX7_isSame 392 = .ok (.iconst 1, 1) := by decide +kernel
theorem dX7_isSame_393 : decode cX7_isSame 393 = .ok (.if_icmp .ne 7, 3) := by decide +kernel
theorem dX7_isSame_396 : decode cX7_isSame 396 = .ok (.iconst 1, 1) := by decide +kernel
theorem dX7_isSame_397 : decode cX7_isSame 397 = .ok (.goto 4, 3) := by decide +kernel
theorem dX7_isSame_400 : decode cX7_isSame 400 = .ok (.iconst 0, 1) := by decide +kernel
theorem dX7_isSame_401 : decode cX7_isSame 401 = .ok (.iadd, 1) := by decide +kernel
theorem dX7_isSame_402 : decode cX7_isSame 402 = .ok (.istore 6, 2) := by decide +kernel
theorem dX7_isSame_404 : decode cX7_isSame 404 = .ok (.iload 7, 2) := by decide +kernel
theorem dX7_isSame_406 : decode cX7_isSame 406 = .ok (.aload_n 0, 1) := by decide +kernel
theorem dX7_isSame_407 : decode cX7_isSame 407 = .ok (.getfield 15, 3) := by decide +kernel
theorem dX7_isSame_410 : decode cX7_isSame 410 = .ok (.aload 11, 2) := by decide +kernel
theorem dX7_isSame_412 : decode cX7_isSame 412 = .ok (.iconst 1, 1) := by decide +kernel
theorem dX7_isSame_413 : decode cX7_isSame 413 = .ok (.iaload, 1) := by decide +kernel
theorem dX7_isSame_414 : decode cX7_isSame 414 = .ok (.aaload, 1) := by decide +kernel
theorem dX7_isSame_415 : decode cX7_isSame 415 = .ok (.aload 11, 2) := by decide +kernel
theorem dX7_isSame_417 : decode cX7_isSame 417 = .ok (.iconst 0, 1) := by decide +kernel
theorem dX7_isSame_418 : decode cX7_isSame 418 = .ok (.iaload, 1) := by decide +kernel
theorem dX7_isSame_419 : decode cX7_isSame 419 = .ok (.aaload, 1) := by decide +kernel
theorem dX7_isSame_420 : decode cX7_isSame 420 = .ok (.iconst 0, 1) := by decide +kernel
theorem dX7_isSame_421 : decode cX7_isSame 421 = .ok (.iaload, 1) := by decide +kernel
theorem dX7_isSame_422 : decode cX7_isSame 422 = .ok (.iconst 2, 1) := by decide +kernel
theorem dX7_isSame_423 : decode cX7_isSame 423 = .ok (.if_icmp .ne 7, 3) := by decide +kernel
theorem dX7_isSame_426 : decode cX7_isSame 426 = .ok (.iconst 1, 1) := by decide +kernel
theorem dX7_isSame_427 : decode cX7_isSame 427 = .ok (.goto 4, 3) := by decide +kernel
theorem dX7_isSame_430 : decode cX7_isSame 430 = .ok (.iconst 0, 1) := by decide +kernel
theorem dX7_isSame_431 : decode cX7_isSame 431 = .ok (.iadd, 1) := by decide +kernel
theorem dX7_isSame_432 : decode cX7_isSame 432 = .ok (.istore 7, 2) := by decide +kernel
theorem dX7_isSame_434 : decode cX7_isSame 434 = .ok (.iinc 10 1, 3) := by decide +kernel
theorem dX7_isSame_437 : decode cX7_isSame 437 = .ok (.goto (-77), 3) := by decide +kernel
theorem dX7_isSame_440 : decode cX7_isSame 440 = .ok (.iconst 0, 1) := by decide +kernel
theorem dX7_isSame_441 : decode cX7_isSame 441 = .ok (.istore 8, 2) := by decide +kernel
theorem dX7_isSame_443 : decode cX7_isSame 443 = .ok (.aload_n 0, 1) := by decide +kernel
theorem dX7_isSame_444 : decode cX7_isSame 444 = .ok (.getfield 27, 3) := by decide +kernel
theorem dX7_isSame_447 : decode cX7_isSame 447 = .ok (.astore 9, 2) := by decide +kernel
theorem dX7_isSame_449 : decode cX7_isSame 449 = .ok (.aload 9, 2) := by decide +kernel
theorem dX7_isSame_451 : decode cX7_isSame 451 = .ok (.arraylength, 1) := by decide +kernel
theorem dX7_isSame_452 : decode cX7_isSame 452 = .ok (.istore 10, 2) := by decide +kernel
theorem dX7_isSame_454 : decode cX7_isSame 454 = .ok (.iconst 0, 1) := by decide +kernel
theorem dX7_isSame_455 : decode cX7_isSame 455 = .ok (.istore 11, 2) := by decide +kernel
theorem dX7_isSame_457 : decode cX7_isSame 457 = .ok (.iload 11, 2) := by decide +kernel
theorem dX7_isSame_459 : decode cX7_isSame 459 = .ok (.iload 10, 2) := by decide +kernel
theorem dX7_isSame_461 : decode cX7_isSame 461 = .ok (.if_icmp .ge 35, 3) := by decide +kernel
theorem dX7_isSame_464 : decode cX7_isSame 464 = .ok (.aload 9, 2) := by decide +kernel
theorem dX7_isSame_466 : decode cX7_isSame 466 = .ok (.iload 11, 2) := by decide +kernel
theorem dX7_isSame_468 : decode cX7_isSame 468 = .ok (.aaload, 1) := by decide +kernel
theorem dX7_isSame_469 : decode cX7_isSame 469 = .ok (.astore 12, 2) := by decide +kernel
theorem dX7_isSame_471 : decode cX7_isSame 471 = .ok (.iload 8, 2) := by decide +kernel
theorem dX7_isSame_473 : decode cX7_isSame 473 = .ok (.aload 12, 2) := by decide +kernel
theorem dX7_isSame_475 : decode cX7_isSame 475 = .ok (.iconst 0, 1) := by decide +kernel
theorem dX7_isSame_476 : decode cX7_isSame 476 = .ok (.iaload, 1) := by decide +kernel
theorem dX7_isSame_477 : decode cX7_isSame 477 = .ok (.iload 4, 2) := by decide +kernel
theorem dX7_isSame_479 : decode cX7_isSame 479 = .ok (.if_icmp .ne 7, 3) := by decide +kernel
theorem dX7_isSame_482 : decode cX7_isSame 482 = .ok (.iconst 1, 1) := by decide +kernel
theorem dX7_isSame_483 : decode cX7_isSame 483 = .ok (.goto 4, 3) := by decide +kernel
theorem dX7_isSame_486 : decode cX7_isSame 486 = .ok (.iconst 0, 1) := by decide +kernel
theorem dX7_isSame_487 : decode cX7_isSame 487 = .ok (.iadd, 1) := by decide +kernel
theorem dX7_isSame_488 : decode cX7_isSame 488 = .ok (.istore 8, 2) := by decide +kernel
theorem dX7_isSame_490 : decode cX7_isSame 490 = .ok (.iinc 11 1, 3) := by decide +kernel
theorem dX7_isSame_493 : decode cX7_isSame 493 = .ok (.goto (-36), 3) := by decide +kernel
theorem dX7_isSame_496 : decode cX7_isSame 496 = .ok (.iconst 5, 1) := by decide +kernel
theorem dX7_isSame_497 : decode cX7_isSame 497 = .ok (.newarray .int, 2) := by decide +kernel
theorem dX7_isSame_499 : decode cX7_isSame 499 = .ok (.dup, 1) := by decide +kernel
theorem dX7_isSame_500 : decode cX7_isSame 500 = .ok (.iconst 0, 1) := by decide +kernel
theorem dX7_isSame_501 : decode cX7_isSame 501 = .ok (.aload 5, 2) := by decide +kernel
theorem dX7_isSame_503 : decode cX7_isSame 503 = .ok (.arraylength, 1) := by decide +kernel
theorem dX7_isSame_504 : decode cX7_isSame 504 = .ok (.iastore, 1) := by decide +kernel
theorem dX7_isSame_505 : decode cX7_isSame 505 = .ok (.dup, 1) := by decide +kernel
theorem dX7_isSame_506 : decode cX7_isSame 506 = .ok (.iconst 1, 1) := by decide +kernel
theorem dX7_isSame_507 : decode cX7_isSame 507 = .ok (.iload 6, 2) := by decide +kernel
theorem dX7_isSame_509 : decode cX7_isSame 509 = .ok (.iastore, 1) := by decide +kernel
theorem dX7_isSame_510 : decode cX7_isSame 510 = .ok (.dup, 1) := by decide +kernel
theorem dX7_isSame_511 : decode cX7_isSame 511 = .ok (.iconst 2, 1) := by decide +kernel
theorem dX7_isSame_512 : decode cX7_isSame 512 = .ok (.iload 7, 2) := by decide +kernel
theorem dX7_isSame_514 : decode cX7_isSame 514 = .ok (.iastore, 1) := by decide +kernel
theorem dX7_isSame_515 : decode cX7_isSame 515 = .ok (.dup, 1) := by decide +kernel
theorem dX7_isSame_516 : decode cX7_isSame 516 = .ok (.iconst 3, 1) := by decide +kernel
theorem dX7_isSame_517 : decode cX7_isSame 517 = .ok (.aload_n 0, 1) := by decide +kernel
theorem dX7_isSame_518 : decode cX7_isSame 518 = .ok (.aload_n 0, 1) := by decide +kernel
theorem dX7_isSame_519 : decode cX7_isSame 519 = .ok (.getfield 24, 3) := by decide +kernel
theorem dX7_isSame_522 : decode cX7_isSame 522 = .ok (.iload 4, 2) := by decide +kernel
theorem dX7_isSame_524 : decode cX7_isSame 524 = .ok (.aaload, 1) := by decide +kernel
theorem dX7_isSame_525 : decode cX7_isSame 525 = .ok (.invokevirtual 55, 3) := by decide +kernel
theorem dX7_isSame_528 : decode cX7_isSame 528 = .ok (.iastore, 1) := by decide +kernel
theorem dX7_isSame_529 : decode cX7_isSame 529 = .ok (.dup, 1) := by decide +kernel
theorem dX7_isSame_530 : decode cX7_isSame 530 = .ok (.iconst 4, 1) := by decide +kernel
theorem dX7_isSame_531 : decode cX7_isSame 531 = .ok (.iload 8, 2) := by decide +kernel
theorem dX7_isSame_533 : decode cX7_isSame 533 = .ok (.iastore, 1) := by decide +kernel
theorem dX7_isSame_534 : decode cX7_isSame 534 = .ok (.astore 9, 2) := by decide +kernel
theorem dX7_isSame_536 : decode cX7_isSame 536 = .ok (.iconst 0, 1) := by decide +kernel
theorem dX7_isSame_537 : decode cX7_isSame 537 = .ok (.istore 10, 2) := by decide +kernel
theorem dX7_isSame_539 : decode cX7_isSame 539 = .ok (.iload 10, 2) := by decide +kernel
theorem dX7_isSame_541 : decode cX7_isSame 541 = .ok (.iconst 5, 1) := by decide +kernel
theorem dX7_isSame_542 : decode cX7_isSame 542 = .ok (.if_icmp .ge 27, 3) := by decide +kernel
theorem dX7_isSame_545 : decode cX7_isSame 545 = .ok (.aload_n 1, 1) := by decide +kernel
theorem dX7_isSame_546 : decode cX7_isSame 546 = .ok (.iload 4, 2) := by decide +kernel
theorem dX7_isSame_548 : decode cX7_isSame 548 = .ok (.iload 10, 2) := by decide +kernel
theorem dX7_isSame_550 : decode cX7_isSame 550 = .ok (.invokevirtual 77, 3) := by decide +kernel
theorem dX7_isSame_553 : decode cX7_isSame 553 = .ok (.aload 9, 2) := by decide +kernel
theorem dX7_isSame_555 : decode cX7_isSame 555 = .ok (.iload 10, 2) := by decide +kernel
theorem dX7_isSame_557 : decode cX7_isSame 557 = .ok (.iaload, 1) := by decide +kernel
theorem dX7_isSame_558 : decode cX7_isSame 558 = .ok (.if_icmp .eq 5, 3) := by decide +kernel
theorem dX7_isSame_561 : decode cX7_isSame 561 = .ok (.iconst 0, 1) := by decide +kernel
theorem dX7_isSame_562 : decode cX7_isSame 562 = .ok (.ireturn, 1) := by decide +kernel
theorem dX7_isSame_563 : decode cX7_isSame 563 = .ok (.iinc 10 1, 3) := by decide +kernel
theorem dX7_isSame_566 : decode cX7_isSame 566 = .ok (.goto (-27), 3) := by decide +kernel
theorem dX7_isSame_569 : decode cX7_isSame 569 = .ok (.iload_n 2, 1) := by decide +kernel
theorem dX7_isSame_570 : decode cX7_isSame 570 = .ok (.aload 9, 2) := by decide +kernel
theorem dX7_isSame_572 : decode cX7_isSame 572 = .ok (.iconst 3, 1) := by decide +kernel
theorem dX7_isSame_573 : decode cX7_isSame 573 = .ok (.iaload, 1) := by decide +kernel
theorem dX7_isSame_574 : decode cX7_isSame 574 = .ok (.iadd, 1) := by decide +kernel
theorem dX7_isSame_575 : decode cX7_isSame 575 = .ok (.istore_n 2, 1) := by decide +kernel
theorem dX7_isSame_576 : decode cX7_isSame 576 = .ok (.iload_n 3, 1) := by decide +kernel
theorem dX7_isSame_577 : decode cX7_isSame 577 = .ok (.ifCond .lt 20, 3) := by decide +kernel
theorem dX7_isSame_580 : decode cX7_isSame 580 = .ok (.aload 9, 2) := by decide +kernel
theorem dX7_isSame_582 : decode cX7_isSame 582 = .ok (.iconst 3, 1) := by decide +kernel
theorem dX7_isSame_583 : decode cX7_isSame 583 = .ok (.iaload, 1) := by decide +kernel
theorem dX7_isSame_584 : decode cX7_isSame 584 = .ok (.aload_n 0, 1) := by decide +kernel
theorem dX7_isSame_585 : decode cX7_isSame 585 = .ok (.aload_n 0, 1) := by decide +kernel
theorem dX7_isSame_586 : decode cX7_isSame 586 = .ok (.getfield 24, 3) := by decide +kernel
theorem dX7_isSame_589 : decode cX7_isSame 589 = .ok (.iload_n 3, 1) := by decide +kernel
theorem dX7_isSame_590 : decode cX7_isSame 590 = .ok (.aaload, 1) := by decide +kernel
theorem dX7_isSame_591 : decode cX7_isSame 591 = .ok (.invokevirtual 55, 3) := by decide +kernel
theorem dX7_isSame_594 : decode cX7_isSame 594 = .ok (.if_icmp .lt 6, 3) := by decide +kernel
theorem dX7_isSame_597 : decode cX7_isSame 597 = .ok (.iload 4, 2) := by decide +kernel
theorem dX7_isSame_599 : decode cX7_isSame 599 = .ok (.istore_n 3, 1) := by decide +kernel
theorem dX7_isSame_600 : decode cX7_isSame 600 = .ok (.iinc 4 (-1), 3) := by decide +kernel
theorem dX7_isSame_603 : decode cX7_isSame 603 = .ok (.goto (-279), 3) := by decide +kernel
theorem dX7_isSame_606 : decode cX7_isSame 606 = .ok (.iconst 0, 1) := by decide +kernel
theorem dX7_isSame_607 : decode cX7_isSame 607 = .ok (.istore 4, 2) := by decide +kernel
theorem dX7_isSame_609 : decode cX7_isSame 609 = .ok (.iload 4, 2) := by decide +kernel
theorem dX7_isSame_611 : decode cX7_isSame 611 = .ok (.aload_n 0, 1) := by decide +kernel
theorem dX7_isSame_612 : decode cX7_isSame 612 = .ok (.getfield 27, 3) := by decide +kernel
theorem dX7_isSame_615 : decode cX7_isSame 615 = .ok (.arraylength, 1) := by decide +kernel
theorem dX7_isSame_616 : decode cX7_isSame 616 = .ok (.if_icmp .ge 29, 3) := by decide +kernel
theorem dX7_isSame_619 : decode cX7_isSame 619 = .ok (.aload_n 1, 1) := by decide +kernel
theorem dX7_isSame_620 : decode cX7_isSame 620 = .ok (.iload 4, 2) := by decide +kernel
theorem dX7_isSame_622 : decode cX7_isSame 622 = .ok (.invokevirtual 80, 3) := by decide +kernel
theorem dX7_isSame_625 : decode cX7_isSame 625 = .ok (.aload_n 0, 1) := by decide +kernel
theorem dX7_isSame_626 : decode cX7_isSame 626 = .ok (.getfield 27, 3) := by decide +kernel
theorem dX7_isSame_629 : decode cX7_isSame 629 = .ok (.iload 4, 2) := by decide +kernel
theorem dX7_isSame_631 : decode cX7_isSame 631 = .ok (.aaload, 1) := by decide +kernel
theorem dX7_isSame_632 : decode cX7_isSame 632 = .ok (.iconst 1, 1) := by decide +kernel
theorem dX7_isSame_633 : decode cX7_isSame 633 = .ok (.iaload, 1) := by decide +kernel
theorem dX7_isSame_634 : decode cX7_isSame 634 = .ok (.if_icmp .eq 5, 3) := by decide +kernel
theorem dX7_isSame_637 : decode cX7_isSame 637 = .ok (.iconst 0, 1) := by decide +kernel
theorem dX7_isSame_638 : decode cX7_isSame 638 = .ok (.ireturn, 1) := by decide +kernel
theorem dX7_isSame_639 : decode cX7_isSame 639 = .ok (.iinc 4 1, 3) := by decide +kernel
theorem dX7_isSame_642 : decode cX7_isSame 642 = .ok (.goto (-33), 3) := by decide +kernel
theorem dX7_isSame_645 : decode cX7_isSame 645 = .ok (.aload_n 0, 1) := by decide +kernel
theorem dX7_isSame_646 : decode cX7_isSame 646 = .ok (.invokevirtual 84, 3) := by decide +kernel
theorem dX7_isSame_649 : decode cX7_isSame 649 = .ok (.astore 4, 2) := by decide +kernel
theorem dX7_isSame_651 : decode cX7_isSame 651 = .ok (.iconst 0, 1) := by decide +kernel
theorem dX7_isSame_652 : decode cX7_isSame 652 = .ok (.istore 5, 2) := by decide +kernel
theorem dX7_isSame_654 : decode cX7_isSame 654 = .ok (.iload 5, 2) := by decide +kernel
theorem dX7_isSame_656 : decode cX7_isSame 656 = .ok (.bipush 11, 2) := by decide +kernel
theorem dX7_isSame_658 : decode cX7_isSame 658 = .ok (.if_icmp .ge 25, 3) := by decide +kernel
theorem dX7_isSame_661 : decode cX7_isSame 661 = .ok (.aload_n 1, 1) := by decide +kernel
theorem dX7_isSame_662 : decode cX7_isSame 662 = .ok (.iload 5, 2) := by decide +kernel
theorem dX7_isSame_664 : decode cX7_isSame 664 = .ok (.invokevirtual 88, 3) := by decide +kernel
theorem dX7_isSame_667 : decode cX7_isSame 667 = .ok (.aload 4, 2) := by decide +kernel
theorem dX7_isSame_669 : decode cX7_isSame 669 = .ok (.iload 5, 2) := by decide +kernel
theorem dX7_isSame_671 : decode cX7_isSame 671 = .ok (.iaload, 1) := by decide +kernel
theorem dX7_isSame_672 : decode cX7_isSame 672 = .ok (.if_icmp .eq 5, 3) := by decide +kernel
theorem dX7_isSame_675 : decode cX7_isSame 675 = .ok (.iconst 0, 1) := by decide +kernel
theorem dX7_isSame_676 : decode cX7_isSame 676 = .ok (.ireturn, 1) := by decide +kernel
theorem dX7_isSame_677 : decode cX7_isSame 677 = .ok (.iinc 5 1, 3) := by decide +kernel
theorem dX7_isSame_680 : decode cX7_isSame 680 = .ok (.goto (-26), 3) := by decide +kernel
theorem dX7_isSame_683 : decode cX7_isSame 683 = .ok (.aload_n 1, 1) := by decide +kernel
theorem dX7_isSame_684 : decode cX7_isSame 684 = .ok (.invokevirtual 91, 3) := by decide +kernel
theorem dX7_isSame_687 : decode cX7_isSame 687 = .ok (.iload_n 3, 1) := by decide +kernel
theorem dX7_isSame_688 : decode cX7_isSame 688 = .ok (.if_icmp .ne 36, 3) := by decide +kernel
theorem dX7_isSame_691 : decode cX7_isSame 691 = .ok (.aload_n 1, 1) := by decide +kernel
theorem dX7_isSame_692 : decode cX7_isSame 692 = .ok (.invokevirtual 95, 3) := by decide +kernel
theorem dX7_isSame_695 : decode cX7_isSame 695 = .ok (.aload_n 0, 1) := by decide +kernel
theorem dX7_isSame_696 : decode cX7_isSame 696 = .ok (.getfield 24, 3) := by decide +kernel
theorem dX7_isSame_699 : decode cX7_isSame 699 = .ok (.arraylength, 1) := by decide +kernel
theorem dX7_isSame_700 : decode cX7_isSame 700 = .ok (.ifCond .ne 7, 3) := by decide +kernel
theorem dX7_isSame_703 : decode cX7_isSame 703 = .ok (.dconst 0, 1) := by decide +kernel
theorem dX7_isSame_704 : decode cX7_isSame 704 = .ok (.goto 12, 3) := by decide +kernel
theorem dX7_isSame_707 : decode cX7_isSame 707 = .ok (.iload_n 2, 1) := by decide +kernel
theorem dX7_isSame_708 : decode cX7_isSame 708 = .ok (.i2d, 1) := by decide +kernel
theorem dX7_isSame_709 : decode cX7_isSame 709 = .ok (.aload_n 0, 1) := by decide +kernel
theorem dX7_isSame_710 : decode cX7_isSame 710 = .ok (.getfield 24, 3) := by decide +kernel
theorem dX7_isSame_713 : decode cX7_isSame 713 = .ok (.arraylength, 1) := by decide +kernel
theorem dX7_isSame_714 : decode cX7_isSame 714 = .ok (.i2d, 1) := by decide +kernel
theorem dX7_isSame_715 : decode cX7_isSame 715 = .ok (.ddiv, 1) := by decide +kernel
theorem dX7_isSame_716 : decode cX7_isSame 716 = .ok (.dcmp .l, 1) := by decide +kernel
theorem dX7_isSame_717 : decode cX7_isSame 717 = .ok (.ifCond .ne 7, 3) := by decide +kernel
theorem dX7_isSame_720 : decode cX7_isSame 720 = .ok (.iconst 1, 1) := by decide +kernel
theorem dX7_isSame_721 : decode cX7_isSame 721 = .ok (.goto 4, 3) := by decide +kernel
theorem dX7_isSame_724 : decode cX7_isSame 724 = .ok (.iconst 0, 1) := by decide +kernel
theorem dX7_isSame_725 : decode cX7_isSame 725 = .ok (.ireturn, 1) := by decide +kernel

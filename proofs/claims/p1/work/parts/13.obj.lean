theorem dX9_init_0 : decode cX9_init 0 = .ok (.aload_n 0, 1) := by decide +kernel
theorem dX9_init_1 : decode cX9_init 1 = .ok (.invokespecial 3, 3) := by decide +kernel
theorem dX9_init_4 : decode cX9_init 4 = .ok (.aload_n 0, 1) := by decide +kernel
theorem dX9_init_5 : decode cX9_init 5 = .ok (.bipush 16, 2) := by decide +kernel
theorem dX9_init_7 : decode cX9_init 7 = .ok (.anewarray 9, 3) := by decide +kernel
theorem dX9_init_10 : decode cX9_init 10 = .ok (.putfield 11, 3) := by decide +kernel
theorem dX9_init_13 : decode cX9_init 13 = .ok (.iconst 0, 1) := by decide +kernel
theorem dX9_init_14 : decode cX9_init 14 = .ok (.istore_n 1, 1) := by decide +kernel
theorem dX9_init_15 : decode cX9_init 15 = .ok (.iload_n 1, 1) := by decide +kernel
theorem dX9_init_16 : decode cX9_init 16 = .ok (.bipush 16, 2) := by decide +kernel
theorem dX9_init_18 : decode cX9_init 18 = .ok (.if_icmp .ge 22, 3) := by decide +kernel
theorem dX9_init_21 : decode cX9_init 21 = .ok (.aload_n 0, 1) := by decide +kernel
theorem dX9_init_22 : decode cX9_init 22 = .ok (.getfield 11, 3) := by decide +kernel
theorem dX9_init_25 : decode cX9_init 25 = .ok (.iload_n 1, 1) := by decide +kernel
theorem dX9_init_26 : decode cX9_init 26 = .ok (.new 9, 3) := by decide +kernel
theorem dX9_init_29 : decode cX9_init 29 = .ok (.dup, 1) := by decide +kernel
theorem dX9_init_30 : decode cX9_init 30 = .ok (.invokespecial 17, 3) := by decide +kernel
theorem dX9_init_33 : decode cX9_init 33 = .ok (.aastore, 1) := by decide +kernel
theorem dX9_init_34 : decode cX9_init 34 = .ok (.iinc 1 1, 3) := by decide +kernel
theorem dX9_init_37 : decode cX9_init 37 = .ok (.goto (-22), 3) := by decide +kernel
theorem dX9_init_40 : decode cX9_init 40 = .ok (.return_, 1) := by decide +kernel
theorem dX9_clear_0 : decode cX9_clear 0 = .ok (.aload_n 0, 1) := by decide +kernel
theorem dX9_clear_1 : decode cX9_clear 1 = .ok (.iconst 0, 1) := by decide +kernel
theorem dX9_clear_2 : decode cX9_clear 2 = .ok (.putfield 18, 3) := by decide +kernel
theorem dX9_clear_5 : decode cX9_clear 5 = .ok (.return_, 1) := by decide +kernel
theorem dX9_takeBack_0 : decode cX9_takeBack 0 = .ok (.aload_n 0, 1) := by decide +kernel
theorem dX9_takeBack_1 : decode cX9_takeBack 1 = .ok (.getfield 18, 3) := by decide +kernel
theorem dX9_takeBack_4 : decode cX9_takeBack 4 = .ok (.ifCond .ne 5, 3) := by decide +kernel
theorem dX9_takeBack_7 : decode cX9_takeBack 7 = .ok (.iconst 0, 1) := by decide +kernel
theorem dX9_takeBack_8 : decode cX9_takeBack 8 = .ok (.ireturn, 1) := by decide +kernel
theorem dX9_takeBack_9 : decode cX9_takeBack 9 = .ok (.aload_n 0, 1) := by decide +kernel
theorem dX9_takeBack_10 : decode cX9_takeBack 10 = .ok (.aload_n 0, 1) := by decide +kernel
theorem dX9_takeBack_11 : decode cX9_takeBack 11 = .ok (.getfield 22, 3) := by decide +kernel
theorem dX9_takeBack_14 : decode cX9_takeBack 14 = .ok (.bipush 16, 2) := by decide +kernel
theorem dX9_takeBack_16 : decode cX9_takeBack 16 = .ok (.iadd, 1) := by decide +kernel
theorem dX9_takeBack_17 : decode cX9_takeBack 17 = .ok (.iconst 1, 1) := by decide +kernel
theorem dX9_takeBack_18 : decode cX9_takeBack 18 = .ok (.isub, 1) := by decide +kernel
theorem dX9_takeBack_19 : decode cX9_takeBack 19 = .ok (.bipush 16, 2) := by decide +kernel
theorem dX9_takeBack_21 : decode cX9_takeBack 21 = .ok (.irem, 1) := by decide +kernel
theorem dX9_takeBack_22 : decode cX9_takeBack 22 = .ok (.putfield 22, 3) := by decide +kernel
theorem dX9_takeBack_25 : decode cX9_takeBack 25 = .ok (.aload_n 0, 1) := by decide +kernel
theorem dX9_takeBack_26 : decode cX9_takeBack 26 = .ok (.dup, 1) := by decide +kernel
theorem dX9_takeBack_27 : decode cX9_takeBack 27 = .ok (.getfield 18, 3) := by decide +kernel
theorem dX9_takeBack_30 : decode cX9_takeBack 30 = .ok (.iconst 1, 1) := by decide +kernel
theorem dX9_takeBack_31 : decode cX9_takeBack 31 = .ok (.isub, 1) := by decide +kernel
theorem dX9_takeBack_32 : decode cX9_takeBack 32 = .ok (.putfield 18, 3) := by decide +kernel
theorem dX9_takeBack_35 : decode cX9_takeBack 35 = .ok (.aload_n 1, 1) := by decide +kernel
theorem dX9_takeBack_36 : decode cX9_takeBack 36 = .ok (.aload_n 0, 1) := by decide +kernel
theorem dX9_takeBack_37 : decode cX9_takeBack 37 = .ok (.getfield 11, 3) := by decide +kernel
theorem dX9_takeBack_40 : decode cX9_takeBack 40 = .ok (.aload_n 0, 1) := by decide +kernel
theorem dX9_takeBack_41 : decode cX9_takeBack 41 = .ok (.getfield 22, 3) := by decide +kernel
theorem dX9_takeBack_44 : decode cX9_takeBack 44 = .ok (.aaload, 1) := by decide +kernel
theorem dX9_takeBack_45 : decode cX9_takeBack 45 = .ok (.invokevirtual 25, 3) := by decide +kernel
theorem dX9_takeBack_48 : decode cX9_takeBack 48 = .ok (.iconst 1, 1) := by decide +kernel
theorem dX9_takeBack_49 : decode cX9_takeBack 49 = .ok (.ireturn, 1) := by decide +kernel
theorem dX2_init_0 : decode cX2_init 0 = .ok (.aload_n 0, 1) := by decide +kernel
theorem dX2_init_1 : decode cX2_init 1 = .ok (.invokespecial 3, 3) := by decide +kernel
theorem dX2_init_4 : decode cX2_init 4 = .ok (.aload_n 0, 1) := by decide +kernel
theorem dX2_init_5 : decode cX2_init 5 = .ok (.new 9, 3) := by decide +kernel
theorem dX2_init_8 : decode cX2_init 8 = .ok (.dup, 1) := by decide +kernel
theorem dX2_init_9 : decode cX2_init 9 = .ok (.invokespecial 11, 3) := by decide +kernel
theorem dX2_init_12 : decode cX2_init 12 = .ok (.putfield 12, 3) := by decide +kernel
theorem dX2_init_15 : decode cX2_init 15 = .ok (.return_, 1) := by decide +kernel
theorem dX6_init_0 : decode cX6_init 0 = .ok (.aload_n 0, 1) := by decide +kernel
theorem dX6_init_1 : decode cX6_init 1 = .ok (.invokespecial 3, 3) := by decide +kernel
theorem dX6_init_4 : decode cX6_init 4 = .ok (.aload_n 0, 1) := by decide +kernel
theorem dX6_init_5 : decode cX6_init 5 = .ok (.bipush 8, 2) := by decide +kernel
theorem dX6_init_7 : decode cX6_init 7 = .ok (.newarray .int, 2) := by decide +kernel
theorem dX6_init_9 : decode cX6_init 9 = .ok (.putfield 9, 3) := by decide +kernel
theorem dX6_init_12 : decode cX6_init 12 = .ok (.aload_n 0, 1) := by decide +kernel
theorem dX6_init_13 : decode cX6_init 13 = .ok (.bipush 8, 2) := by decide +kernel
theorem dX6_init_15 : decode cX6_init 15 = .ok (.newarray .int, 2) := by decide +kernel
theorem dX6_init_17 : decode cX6_init 17 = .ok (.putfield 15, 3) := by decide +kernel
theorem dX6_init_20 : decode cX6_init 20 = .ok (.return_, 1) := by decide +kernel
theorem dX1_init_0 : decode cX1_init 0 = .ok (.aload_n 0, 1) := by decide +kernel
theorem dX1_init_1 : decode cX1_init 1 = .ok (.invokespecial 5, 3) := by decide +kernel
theorem dX1_init_4 : decode cX1_init 4 = .ok (.aload_n 0, 1) := by decide +kernel
theorem dX1_init_5 : decode cX1_init 5 = .ok (.iconst 5, 1) := by decide +kernel
theorem dX1_init_6 : decode cX1_init 6 = .ok (.newarray .int, 2) := by decide +kernel
theorem dX1_init_8 : decode cX1_init 8 = .ok (.putfield 11, 3) := by decide +kernel
theorem dX1_init_11 : decode cX1_init 11 = .ok (.aload_n 0, 1) := by decide +kernel
theorem dX1_init_12 : decode cX1_init 12 = .ok (.bipush 40, 2) := by decide +kernel
theorem dX1_init_14 : decode cX1_init 14 = .ok (.newarray .int, 2) := by decide +kernel
theorem dX1_init_16 : decode cX1_init 16 = .ok (.putfield 17, 3) := by decide +kernel
theorem dX1_init_19 : decode cX1_init 19 = .ok (.aload_n 0, 1) := by decide +kernel
theorem dX1_init_20 : decode cX1_init 20 = .ok (.iconst 5, 1) := by decide +kernel
theorem dX1_init_21 : decode cX1_init 21 = .ok (.newarray .boolean, 2) := by decide +kernel
theorem dX1_init_23 : decode cX1_init 23 = .ok (.putfield 20, 3) := by decide +kernel
theorem dX1_init_26 : decode cX1_init 26 = .ok (.aload_n 0, 1) := by decide +kernel
theorem dX1_init_27 : decode cX1_init 27 = .ok (.sipush 880, 3) := by decide +kernel
theorem dX1_init_30 : decode cX1_init 30 = .ok (.newarray .int, 2) := by decide +kernel
theorem dX1_init_32 : decode cX1_init 32 = .ok (.putfield 24, 3) := by decide +kernel
theorem dX1_init_35 : decode cX1_init 35 = .ok (.return_, 1) := by decide +kernel
theorem dX4_init_0 : decode cX4_init 0 = .ok (.aload_n 0, 1) := by decide +kernel
theorem dX4_init_1 : decode cX4_init 1 = .ok (.invokespecial 3, 3) := by decide +kernel
theorem dX4_init_4 : decode cX4_init 4 = .ok (.aload_n 0, 1) := by decide +kernel
theorem dX4_init_5 : decode cX4_init 5 = .ok (.iconst 5, 1) := by decide +kernel
theorem dX4_init_6 : decode cX4_init 6 = .ok (.newarray .int, 2) := by decide +kernel
theorem dX4_init_8 : decode cX4_init 8 = .ok (.putfield 9, 3) := by decide +kernel
theorem dX4_init_11 : decode cX4_init 11 = .ok (.aload_n 0, 1) := by decide +kernel
theorem dX4_init_12 : decode cX4_init 12 = .ok (.iconst 5, 1) := by decide +kernel
theorem dX4_init_13 : decode cX4_init 13 = .ok (.newarray .int, 2) := by decide +kernel
theorem dX4_init_15 : decode cX4_init 15 = .ok (.putfield 15, 3) := by decide +kernel
theorem dX4_init_18 : decode cX4_init 18 = .ok (.aload_n 0, 1) := by decide +kernel
theorem dX4_init_19 : decode cX4_init 19 = .ok (.iconst 5, 1) := by decide +kernel
theorem dX4_init_20 : decode cX4_init 20 = .ok (.newarray .int, 2) := by decide +kernel
theorem dX4_init_22 : decode cX4_init 22 = .ok (.putfield 18, 3) := by decide +kernel
theorem dX4_init_25 : decode cX4_init 25 = .ok (.return_, 1) := by decide +kernel
theorem dX8_init_0 : decode cX8_init 0 = .ok (.aload_n 0, 1) := by decide +kernel
theorem dX8_init_1 : decode cX8_init 1 = .ok (.invokespecial 3, 3) := by decide +kernel
theorem dX8_init_4 : decode cX8_init 4 = .ok (.aload_n 0, 1) := by decide +kernel
theorem dX8_init_5 : decode cX8_init 5 = .ok (.sipush 1000, 3) := by decide +kernel
theorem dX8_init_8 : decode cX8_init 8 = .ok (.newarray .byte, 2) := by decide +kernel
theorem dX8_init_10 : decode cX8_init 10 = .ok (.putfield 9, 3) := by decide +kernel
theorem dX8_init_13 : decode cX8_init 13 = .ok (.aload_n 0, 1) := by decide +kernel
theorem dX8_init_14 : decode cX8_init 14 = .ok (.getstatic 15, 3) := by decide +kernel
theorem dX8_init_17 : decode cX8_init 17 = .ok (.putfield 21, 3) := by decide +kernel
theorem dX8_init_20 : decode cX8_init 20 = .ok (.return_, 1) := by decide +kernel
theorem dX8_empty_0 : decode cX8_empty 0 = .ok (.aload_n 0, 1) := by decide +kernel
theorem dX8_empty_1 : decode cX8_empty 1 = .ok (.iconst 0, 1) := by decide +kernel
theorem dX8_empty_2 : decode cX8_empty 2 = .ok (.putfield 24, 3) := by decide +kernel
theorem dX8_empty_5 : decode cX8_empty 5 = .ok (.return_, 1) := by decide +kernel
theorem dX8_advance_0 : decode cX8_advance 0 = .ok (.aload_n 0, 1) := by decide +kernel
theorem dX8_advance_1 : decode cX8_advance 1 = .ok (.getfield 28, 3) := by decide +kernel
theorem dX8_advance_4 : decode cX8_advance 4 = .ok (.aload_n 0, 1) := by decide +kernel
theorem dX8_advance_5 : decode cX8_advance 5 = .ok (.getfield 24, 3) := by decide +kernel
theorem dX8_advance_8 : decode cX8_advance 8 = .ok (.if_icmp .ge 44, 3) := by decide +kernel
theorem dX8_advance_11 : decode cX8_advance 11 = .ok (.aload_n 0, 1) := by decide +kernel
theorem dX8_advance_12 : decode cX8_advance 12 = .ok (.getfield 9, 3) := by decide +kernel
theorem dX8_advance_15 : decode cX8_advance 15 = .ok (.aload_n 0, 1) := by decide +kernel
theorem dX8_advance_16 : decode cX8_advance 16 = .ok (.getfield 28, 3) := by decide +kernel
theorem dX8_advance_19 : decode cX8_advance 19 = .ok (.baload, 1) := by decide +kernel
theorem dX8_advance_20 : decode cX8_advance 20 = .ok (.bipush 10, 2) := by decide +kernel
theorem dX8_advance_22 : decode cX8_advance 22 = .ok (.if_icmp .eq 17, 3) := by decide +kernel
theorem dX8_advance_25 : decode cX8_advance 25 = .ok (.aload_n 0, 1) := by decide +kernel
theorem dX8_advance_26 : decode cX8_advance 26 = .ok (.getfield 9, 3) := by decide +kernel
theorem dX8_advance_29 : decode cX8_advance 29 = .ok (.aload_n 0, 1) := by decide +kernel
theorem dX8_advance_30 : decode cX8_advance 30 = .ok (.getfield 28, 3) := by decide +kernel
theorem dX8_advance_33 : decode cX8_advance 33 = .ok (.baload, 1) := by decide +kernel
theorem dX8_advance_34 : decode cX8_advance 34 = .ok (.bipush 32, 2) := by decide +kernel
theorem dX8_advance_36 : decode cX8_advance 36 = .ok (.if_icmp .ne 16, 3) := by decide +kernel
theorem dX8_advance_39 : decode cX8_advance 39 = .ok (.aload_n 0, 1) := by decide +kernel
theorem dX8_advance_40 : decode cX8_advance 40 = .ok (.dup, 1) := by decide +kernel
theorem dX8_advance_41 : decode cX8_advance 41 = .ok (.getfield 28, 3) := by decide +kernel
theorem dX8_advance_44 : decode cX8_advance 44 = .ok (.iconst 1, 1) := by decide +kernel
theorem dX8_advance_45 : decode cX8_advance 45 = .ok (.iadd, 1) := by decide +kernel
theorem dX8_advance_46 : decode cX8_advance 46 = .ok (.putfield 28, 3) := by decide +kernel
theorem dX8_advance_49 : decode cX8_advance 49 = .ok (.goto (-49), 3) := by decide +kernel
theorem dX8_advance_52 : decode cX8_advance 52 = .ok (.aload_n 0, 1) := by decide +kernel
theorem dX8_advance_53 : decode cX8_advance 53 = .ok (.aload_n 0, 1) := by decide +kernel
theorem dX8_advance_54 : decode cX8_advance 54 = .ok (.getfield 28, 3) := by decide +kernel
theorem dX8_advance_57 : decode cX8_advance 57 = .ok (.putfield 34, 3) := by decide +kernel
theorem dX8_advance_60 : decode cX8_advance 60 = .ok (.aload_n 0, 1) := by decide +kernel
theorem dX8_advance_61 : decode cX8_advance 61 = .ok (.getstatic 15, 3) := by decide +kernel
theorem dX8_advance_64 : decode cX8_advance 64 = .ok (.putfield 21, 3) := by decide +kernel
theorem dX8_advance_67 : decode cX8_advance 67 = .ok (.aload_n 0, 1) := by decide +kernel
theorem dX8_advance_68 : decode cX8_advance 68 = .ok (.getfield 34, 3) := by decide +kernel
theorem dX8_advance_71 : decode cX8_advance 71 = .ok (.aload_n 0, 1) := by decide +kernel
theorem dX8_advance_72 : decode cX8_advance 72 = .ok (.getfield 24, 3) := by decide +kernel
theorem dX8_advance_75 : decode cX8_advance 75 = .ok (.if_icmp .ge 15, 3) := by decide +kernel
theorem dX8_advance_78 : decode cX8_advance 78 = .ok (.aload_n 0, 1) := by decide +kernel
theorem dX8_advance_79 : decode cX8_advance 79 = .ok (.getfield 9, 3) := by decide +kernel
theorem dX8_advance_82 : decode cX8_advance 82 = .ok (.aload_n 0, 1) := by decide +kernel
theorem dX8_advance_83 : decode cX8_advance 83 = .ok (.getfield 34, 3) := by decide +kernel
theorem dX8_advance_86 : decode cX8_advance 86 = .ok (.baload, 1) := by decide +kernel
theorem dX8_advance_87 : decode cX8_advance 87 = .ok (.goto 4, 3) := by decide +kernel
theorem dX8_advance_90 : decode cX8_advance 90 = .ok (.iconst (-1), 1) := by decide +kernel
theorem dX8_advance_91 : decode cX8_advance 91 = .ok (.istore_n 1, 1) := by decide +kernel
theorem dX8_advance_92 : decode cX8_advance 92 = .ok (.iload_n 1, 1) := by decide +kernel
theorem dX8_advance_93 : decode cX8_advance 93 = .ok (.iconst (-1), 1) := by decide +kernel
theorem dX8_advance_94 : decode cX8_advance 94 = .ok (.if_icmp .ne 11, 3) := by decide +kernel
theorem dX8_advance_97 : decode cX8_advance 97 = .ok (.aload_n 0, 1) := by decide +kernel
theorem dX8_advance_98 : decode cX8_advance 98 = .ok (.iconst 0, 1) := by decide +kernel
theorem dX8_advance_99 : decode cX8_advance 99 = .ok (.putfield 37, 3) := by decide +kernel
theorem dX8_advance_102 : decode cX8_advance 102 = .ok (.goto 137, 3) := by decide +kernel
theorem dX8_advance_105 : decode cX8_advance 105 = .ok (.iload_n 1, 1) := by decide +kernel
theorem dX8_advance_106 : decode cX8_advance 106 = .ok (.bipush 97, 2) := by decide +kernel
theorem dX8_advance_108 : decode cX8_advance 108 = .ok (.if_icmp .lt 64, 3) := by decide +kernel
theorem dX8_advance_111 : decode cX8_advance 111 = .ok (.iload_n 1, 1) := by decide +kernel
theorem dX8_advance_112 : decode cX8_advance 112 = .ok (.bipush 122, 2) := by decide +kernel
theorem dX8_advance_114 : decode cX8_advance 114 = .ok (.if_icmp .gt 58, 3) := by decide +kernel
theorem dX8_advance_117 : decode cX8_advance 117 = .ok (.aload_n 0, 1) := by decide +kernel
theorem dX8_advance_118 : decode cX8_advance 118 = .ok (.invokevirtual 40, 3) := by decide +kernel
theorem dX8_advance_121 : decode cX8_advance 121 = .ok (.aload_n 0, 1) := by decide +kernel
theorem dX8_advance_122 : decode cX8_advance 122 = .ok (.aload_n 0, 1) := by decide +kernel
theorem dX8_advance_123 : decode cX8_advance 123 = .ok (.getfield 28, 3) := by decide +kernel
theorem dX8_advance_126 : decode cX8_advance 126 = .ok (.aload_n 0, 1) := by decide +kernel
theorem dX8_advance_127 : decode cX8_advance 127 = .ok (.getfield 34, 3) := by decide +kernel
theorem dX8_advance_130 : decode cX8_advance 130 = .ok (.isub, 1) := by decide +kernel
theorem dX8_advance_131 : decode cX8_advance 131 = .ok (.bipush 8, 2) := by decide +kernel
theorem dX8_advance_133 : decode cX8_advance 133 = .ok (.if_icmp .gt 7, 3) := by decide +kernel
theorem dX8_advance_136 : decode cX8_advance 136 = .ok (.iconst 1, 1) := by decide +kernel
theorem dX8_advance_137 : decode cX8_advance 137 = .ok (.goto 4, 3) := by decide +kernel
theorem dX8_advance_140 : decode cX8_advance 140 = .ok (.iconst 3, 1) := by decide +kernel
theorem dX8_advance_141 : decode cX8_advance 141 = .ok (.putfield 37, 3) := by decide +kernel
theorem dX8_advance_144 : decode cX8_advance 144 = .ok (.aload_n 0, 1) := by decide +kernel
theorem dX8_advance_145 : decode cX8_advance 145 = .ok (.aload_n 0, 1) := by decide +kernel
theorem dX8_advance_146 : decode cX8_advance 146 = .ok (.getfield 37, 3) := by decide +kernel
theorem dX8_advance_149 : decode cX8_advance 149 = .ok (.iconst 1, 1) := by decide +kernel
theorem dX8_advance_150 : decode cX8_advance 150 = .ok (.if_icmp .ne 13, 3) := by decide +kernel
theorem dX8_advance_153 : decode cX8_advance 153 = .ok (.aload_n 0, 1) := by decide +kernel
theorem dX8_advance_154 : decode cX8_advance 154 = .ok (.getfield 43, 3) := by decide +kernel
theorem dX8_advance_157 : decode cX8_advance 157 = .ok (.invokestatic 47, 3) := by decide +kernel
theorem dX8_advance_160 : decode cX8_advance 160 = .ok (.goto 6, 3) := by decide +kernel
theorem dX8_advance_163 : decode cX8_advance 163 = .ok (.getstatic 15, 3) := by decide +kernel
theorem dX8_advance_166 : decode cX8_advance 166 = .ok (.putfield 21, 3) := by decide +kernel
theorem dX8_advance_169 : decode cX8_advance 169 = .ok (.goto 70, 3) := by decide +kernel
theorem dX8_advance_172 : decode cX8_advance 172 = .ok (.iload_n 1, 1) := by decide +kernel
theorem dX8_advance_173 : decode cX8_advance 173 = .ok (.bipush 48, 2) := by decide +kernel
theorem dX8_advance_175 : decode cX8_advance 175 = .ok (.if_icmp .lt 38, 3) := by decide +kernel
theorem dX8_advance_178 : decode cX8_advance 178 = .ok (.iload_n 1, 1) := by decide +kernel
theorem dX8_advance_179 : decode cX8_advance 179 = .ok (.bipush 57, 2) := by decide +kernel
theorem dX8_advance_181 : decode cX8_advance 181 = .ok (.if_icmp .gt 32, 3) := by decide +kernel
theorem dX8_advance_184 : decode cX8_advance 184 = .ok (.aload_n 0, 1) := by decide +kernel
theorem dX8_advance_185 : decode cX8_advance 185 = .ok (.invokevirtual 51, 3) := by decide +kernel
theorem dX8_advance_188 : decode cX8_advance 188 = .ok (.aload_n 0, 1) := by decide +kernel
theorem dX8_advance_189 : decode cX8_advance 189 = .ok (.aload_n 0, 1) := by decide +kernel
theorem dX8_advance_190 : decode cX8_advance 190 = .ok (.getfield 28, 3) := by decide +kernel
theorem dX8_advance_193 : decode cX8_advance 193 = .ok (.aload_n 0, 1) := by decide +kernel
theorem dX8_advance_194 : decode cX8_advance 194 = .ok (.getfield 34, 3) := by decide +kernel
theorem dX8_advance_197 : decode cX8_advance 197 = .ok (.isub, 1) := by decide +kernel
theorem dX8_advance_198 : decode cX8_advance 198 = .ok (.iconst 4, 1) := by decide +kernel
theorem dX8_advance_199 : decode cX8_advance 199 = .ok (.if_icmp .gt 7, 3) := by decide +kernel
theorem dX8_advance_202 : decode cX8_advance 202 = .ok (.iconst 2, 1) := by decide +kernel
theorem dX8_advance_203 : decode cX8_advance 203 = .ok (.goto 4, 3) := by decide +kernel
theorem dX8_advance_206 : decode cX8_advance 206 = .ok (.iconst 3, 1) := by decide +kernel
theorem dX8_advance_207 : decode cX8_advance 207 = .ok (.putfield 37, 3) := by decide +kernel
theorem dX8_advance_210 : decode cX8_advance 210 = .ok (.goto 29, 3) := by decide +kernel
theorem dX8_advance_213 : decode cX8_advance 213 = .ok (.aload_n 0, 1) := by decide +kernel
theorem dX8_advance_214 : decode cX8_advance 214 = .ok (.dup, 1) := by decide +kernel
theorem dX8_advance_215 : decode cX8_advance 215 = .ok (.getfield 28, 3) := by decide +kernel
theorem dX8_advance_218 : decode cX8_advance 218 = .ok (.iconst 1, 1) := by decide +kernel
theorem dX8_advance_219 : decode cX8_advance 219 = .ok (.iadd, 1) := by decide +kernel
theorem dX8_advance_220 : decode cX8_advance 220 = .ok (.putfield 28, 3) := by decide +kernel
theorem dX8_advance_223 : decode cX8_advance 223 = .ok (.aload_n 0, 1) := by decide +kernel
theorem dX8_advance_224 : decode cX8_advance 224 = .ok (.iload_n 1, 1) := by decide +kernel
theorem dX8_advance_225 : decode cX8_advance 225 = .ok (.invokestatic 54, 3) := by decide +kernel
theorem dX8_advance_228 : decode cX8_advance 228 = .ok (.ifCond .eq 7, 3) := by decide +kernel
theorem dX8_advance_231 : decode cX8_advance 231 = .ok (.iload_n 1, 1) := by decide +kernel
theorem dX8_advance_232 : decode cX8_advance 232 = .ok (.goto 4, 3) := by decide +kernel
theorem dX8_advance_235 : decode cX8_advance 235 = .ok (.iconst 3, 1) := by decide +kernel
theorem dX8_advance_236 : decode cX8_advance 236 = .ok (.putfield 37, 3) := by decide +kernel
theorem dX8_advance_239 : decode cX8_advance 239 = .ok (.return_, 1) := by decide +kernel
theorem dX8_begin_0 : decode cX8_begin 0 = .ok (.aload_n 0, 1) := by decide +kernel
theorem dX8_begin_1 : decode cX8_begin 1 = .ok (.iconst 0, 1) := by decide +kernel
theorem dX8_begin_2 : decode cX8_begin 2 = .ok (.putfield 28, 3) := by decide +kernel
theorem dX8_begin_5 : decode cX8_begin 5 = .ok (.aload_n 0, 1) := by decide +kernel
theorem dX8_begin_6 : decode cX8_begin 6 = .ok (.invokevirtual 31, 3) := by decide +kernel
theorem dX8_begin_9 : decode cX8_begin 9 = .ok (.return_, 1) := by decide +kernel
theorem dX5_init_0 : decode cX5_init 0 = .ok (.aload_n 0, 1) := by decide +kernel
theorem dX5_init_1 : decode cX5_init 1 = .ok (.invokespecial 3, 3) := by decide +kernel
theorem dX5_init_4 : decode cX5_init 4 = .ok (.aload_n 0, 1) := by decide +kernel
theorem dX5_init_5 : decode cX5_init 5 = .ok (.bipush 40, 2) := by decide +kernel
theorem dX5_init_7 : decode cX5_init 7 = .ok (.newarray .int, 2) := by decide +kernel
theorem dX5_init_9 : decode cX5_init 9 = .ok (.putfield 9, 3) := by decide +kernel
theorem dX5_init_12 : decode cX5_init 12 = .ok (.aload_n 0, 1) := by decide +kernel
theorem dX5_init_13 : decode cX5_init 13 = .ok (.aload_n 1, 1) := by decide +kernel
theorem dX5_init_14 : decode cX5_init 14 = .ok (.putfield 15, 3) := by decide +kernel
theorem dX5_init_17 : decode cX5_init 17 = .ok (.aload_n 0, 1) := by decide +kernel
theorem dX5_init_18 : decode cX5_init 18 = .ok (.aload_n 2, 1) := by decide +kernel
theorem dX5_init_19 : decode cX5_init 19 = .ok (.putfield 19, 3) := by decide +kernel
theorem dX5_init_22 : decode cX5_init 22 = .ok (.return_, 1) := by decide +kernel
set_option maxHeartbeats 4000000 in
set_option maxRecDepth 100000 in
theorem c_X9_init (γ : kΓ) (l : Launch) (h : Nat) : kM γ l yX9_init cX9_init 2 none ({ frames := 3, cells := 113, slots := 1248, locals := 64 } : Room) [.ref h] [(h, .inr (9, [.null, .int 0, .int 0]))] (fun r w1 => ∃ (a : Nat), r = none ∧ w1 = [(h, .inr (9, [.ref a, .int 0, .int 0]))]) := by
  refine k_ofW (by decide) (Nat.le_of_ble_eq_true rfl) ?_
  intro p e s m below meth c A ls hC hr hlocks hname hw hl
  have hx := hC.1
  have hb := hC.2.1
  have hin : meth.name = "<init>" := hname
  have hl : lv_has ls 2 [(0, .ref h)] := hl
  refine lv_aload_n hx hb dX9_init_0 rfl (lv_at hl 0 rfl) ?_
  refine k_objInit hC gw_76 hl.1 (by decide) (Nat.le_of_ble_eq_true rfl) dX9_init_1 ?_
  refine W.eq (g2 := F0 m 4 ls []) rfl ?_
  refine lv_aload_n hx hb dX9_init_4 rfl (lv_at hl 0 rfl) ?_
  refine lv_bipush (v := 16) hx hb dX9_init_5 (by decide) ?_
  refine k_newq (N' := 16) hC hw gw_77 nw_78 5 rfl (by decide) (by decide) (by decide) (by decide) (by decide) dX9_init_7 (fun q_104 H hw => ?_)
  have hw : kW γ A [(h, .inr (9, [.null, .int 0, .int 0])), (q_104, .inl (γ.2.1 5, 16, .inr (.inr (.inr (.inr (fun _ => none))))))] s H [] := hw
  refine W.widen (k := 1) (n := 16) (by decide) (by decide) ?_
  refine fs_RX9_11 hC hw hin 0 rfl rfl rfl (Nat.le_of_ble_eq_true rfl) dX9_init_10 (fun H locs hw => ?_)
  have hw : kW γ A [(h, .inr (9, [.ref q_104, .int 0, .int 0])), (q_104, .inl (γ.2.1 5, 16, .inr (.inr (.inr (.inr (fun _ => none))))))] s H locs := hw
  refine lv_iconst (v := 0) hx hb dX9_init_13 (by decide) ?_
  refine lv_istore_n (lv' := [(1, .int 0), (0, .ref h)]) hx hb dX9_init_14 rfl hl (by decide) rfl (fun ls hl => ?_)
  refine lv_iload_n hx hb dX9_init_15 rfl (lv_at hl 0 rfl) ?_
  refine lv_bipush (v := 16) hx hb dX9_init_16 (by decide) ?_
  refine lv_icmp_ge (tgt := 40) hx hb dX9_init_18 (by decide) (fun h => absurd h (by decide)) (fun _ => ?_)
  refine lv_aload_n hx hb dX9_init_21 rfl (lv_at hl 1 rfl) ?_
  refine fg_RX9_11 hC hw 0 rfl rfl dX9_init_22 ?_
  refine lv_iload_n hx hb dX9_init_25 rfl (lv_at hl 0 rfl) ?_
  refine k_new (ci := 7) hC hw in_RX7 tyX7 tyX7_ok gw_77 gw_79 gw_6 rfl nf_RX7 (by decide) (by decide) dX9_init_26 (fun q_105 H hw => ?_)
  have hw : kW γ A [(h, .inr (9, [.ref q_104, .int 0, .int 0])), (q_104, .inl (γ.2.1 5, 16, .inr (.inr (.inr (.inr (fun _ => none)))))), (q_105, .inr (7, [.null, .null, .null, .null, .null, .null, .int 0, .int 0, .int 0]))] s H locs := hw
  refine W.widen (k := 2) (n := 25) (by decide) (by decide) ?_
  refine lv_dup hx hb dX9_init_29 rfl ?_
  refine k_I (wr := [(h, .inr (9, [.ref q_104, .int 0, .int 0])), (q_104, .inl (γ.2.1 5, 16, .inr (.inr (.inr (.inr (fun _ => none))))))]) 0 gw_80 gw_81 gw_6 gw_82 rfl hd_X7_init hC hw (c_X7_init γ l q_105) ⟨by decide, by decide⟩ ⟨by decide, by decide⟩ hl.1 rfl rfl (Nat.le_of_ble_eq_true rfl) [2] [0, 1] rfl rfl rfl rfl (by decide) dX9_init_30 (fun r w1 H locs hq hw => ?_)
  obtain ⟨h_l_106, h_c_107, h_g_108, h_r_109, h_k_110, h_b_111, gh_l_112, gh_c_113, gh_g_114, gh_r_115, gh_k_116, gh_b_117, rfl, rfl, g_118, g_119, g_120, g_121, g_122, g_123⟩ := hq
  have hw : kW γ A [(h, .inr (9, [.ref q_104, .int 0, .int 0])), (q_104, .inl (γ.2.1 5, 16, .inr (.inr (.inr (.inr (fun _ => none)))))), (q_105, .inr (7, [.ref h_l_106, .ref h_c_107, .ref h_g_108, .ref h_r_109, .ref h_k_110, .ref h_b_111, .int 0, .int 0, .int 0])), (h_l_106, .inl (γ.2.1 0, 5, .inl gh_l_112)), (h_c_107, .inl (γ.2.1 0, 5, .inl gh_c_113)), (h_g_108, .inl (γ.2.1 0, 5, .inl gh_g_114)), (h_r_109, .inl (γ.2.1 1, 5, .inr (.inl gh_r_115))), (h_k_110, .inl (γ.2.1 0, 40, .inl gh_k_116)), (h_b_111, .inl (γ.2.1 0, 8, .inl gh_b_117))] s H locs := hw
  refine W.eq (g2 := F0 m 33 ls [.ref q_105, .int 0, .ref q_104]) rfl ?_
  refine W.widen (k := 8) (n := 93) (by decide) (by decide) ?_
  refine k_astq hC hw 1 5 2 7 rfl rfl rfl rfl (k_in0 (by decide)) dX9_init_33 (fun H locs hw => ?_)
  obtain ⟨f_124, ef_124⟩ : ∃ g, g = va_up (fun _ => none) (0 : Int32).toNatClampNeg (some q_105) := ⟨_, rfl⟩
  have hw : kW γ A [(h, .inr (9, [.ref q_104, .int 0, .int 0])), (q_104, .inl (γ.2.1 5, 16, .inr (.inr (.inr (.inr f_124))))), (q_105, .inr (7, [.ref h_l_106, .ref h_c_107, .ref h_g_108, .ref h_r_109, .ref h_k_110, .ref h_b_111, .int 0, .int 0, .int 0])), (h_l_106, .inl (γ.2.1 0, 5, .inl gh_l_112)), (h_c_107, .inl (γ.2.1 0, 5, .inl gh_c_113)), (h_g_108, .inl (γ.2.1 0, 5, .inl gh_g_114)), (h_r_109, .inl (γ.2.1 1, 5, .inr (.inl gh_r_115))), (h_k_110, .inl (γ.2.1 0, 40, .inl gh_k_116)), (h_b_111, .inl (γ.2.1 0, 8, .inl gh_b_117))] s H locs := by rw [ef_124]; exact hw
  have h_125 : f_124 0 = some q_105 := by rw [ef_124]; rfl
  refine lv_iinc (v := 1) (lv' := [(1, .int 1), (0, .ref h)]) hx hb dX9_init_34 hl (k := 0) rfl (by decide) (by decide) rfl (fun ls hl => ?_)
  refine lv_goto (tgt := 15) hx hb dX9_init_37 (by decide) ?_
  refine lv_iload_n hx hb dX9_init_15 rfl (lv_at hl 0 rfl) ?_
  refine lv_bipush (v := 16) hx hb dX9_init_16 (by decide) ?_
  refine lv_icmp_ge (tgt := 40) hx hb dX9_init_18 (by decide) (fun h => absurd h (by decide)) (fun _ => ?_)
  refine lv_aload_n hx hb dX9_init_21 rfl (lv_at hl 1 rfl) ?_
  refine fg_RX9_11 hC hw 0 rfl rfl dX9_init_22 ?_
  refine lv_iload_n hx hb dX9_init_25 rfl (lv_at hl 0 rfl) ?_
  refine k_new (ci := 7) hC hw in_RX7 tyX7 tyX7_ok gw_77 gw_79 gw_6 rfl nf_RX7 (by decide) (by decide) dX9_init_26 (fun q_126 H hw => ?_)
  have hw : kW γ A [(h, .inr (9, [.ref q_104, .int 0, .int 0])), (q_104, .inl (γ.2.1 5, 16, .inr (.inr (.inr (.inr f_124))))), (q_105, .inr (7, [.ref h_l_106, .ref h_c_107, .ref h_g_108, .ref h_r_109, .ref h_k_110, .ref h_b_111, .int 0, .int 0, .int 0])), (h_l_106, .inl (γ.2.1 0, 5, .inl gh_l_112)), (h_c_107, .inl (γ.2.1 0, 5, .inl gh_c_113)), (h_g_108, .inl (γ.2.1 0, 5, .inl gh_g_114)), (h_r_109, .inl (γ.2.1 1, 5, .inr (.inl gh_r_115))), (h_k_110, .inl (γ.2.1 0, 40, .inl gh_k_116)), (h_b_111, .inl (γ.2.1 0, 8, .inl gh_b_117)), (q_126, .inr (7, [.null, .null, .null, .null, .null, .null, .int 0, .int 0, .int 0]))] s H locs := hw
  refine W.widen (k := 9) (n := 102) (by decide) (by decide) ?_
  refine lv_dup hx hb dX9_init_29 rfl ?_
  refine k_I (wr := [(h, .inr (9, [.ref q_104, .int 0, .int 0])), (q_104, .inl (γ.2.1 5, 16, .inr (.inr (.inr (.inr f_124)))))]) 0 gw_80 gw_81 gw_6 gw_82 rfl hd_X7_init hC hw (c_X7_init γ l q_126) ⟨by decide, by decide⟩ ⟨by decide, by decide⟩ hl.1 rfl rfl (Nat.le_of_ble_eq_true rfl) [9] [0, 1] rfl rfl rfl rfl (by decide) dX9_init_30 (fun r w1 H locs hq hw => ?_)
  obtain ⟨h_l_127, h_c_128, h_g_129, h_r_130, h_k_131, h_b_132, gh_l_133, gh_c_134, gh_g_135, gh_r_136, gh_k_137, gh_b_138, rfl, rfl, g_139, g_140, g_141, g_142, g_143, g_144⟩ := hq
  have hw : kW γ A [(h, .inr (9, [.ref q_104, .int 0, .int 0])), (q_104, .inl (γ.2.1 5, 16, .inr (.inr (.inr (.inr f_124))))), (q_126, .inr (7, [.ref h_l_127, .ref h_c_128, .ref h_g_129, .ref h_r_130, .ref h_k_131, .ref h_b_132, .int 0, .int 0, .int 0])), (h_l_127, .inl (γ.2.1 0, 5, .inl gh_l_133)), (h_c_128, .inl (γ.2.1 0, 5, .inl gh_c_134)), (h_g_129, .inl (γ.2.1 0, 5, .inl gh_g_135)), (h_r_130, .inl (γ.2.1 1, 5, .inr (.inl gh_r_136))), (h_k_131, .inl (γ.2.1 0, 40, .inl gh_k_137)), (h_b_132, .inl (γ.2.1 0, 8, .inl gh_b_138))] s H locs := hw
  refine W.eq (g2 := F0 m 33 ls [.ref q_126, .int 1, .ref q_104]) rfl ?_
  refine W.widen (k := 15) (n := 170) (by decide) (by decide) ?_
  refine k_astq hC hw 1 5 2 7 rfl rfl rfl rfl (k_in0 (by decide)) dX9_init_33 (fun H locs hw => ?_)
  obtain ⟨f_145, ef_145⟩ : ∃ g, g = va_up f_124 (1 : Int32).toNatClampNeg (some q_126) := ⟨_, rfl⟩
  have hw : kW γ A [(h, .inr (9, [.ref q_104, .int 0, .int 0])), (q_104, .inl (γ.2.1 5, 16, .inr (.inr (.inr (.inr f_145))))), (q_126, .inr (7, [.ref h_l_127, .ref h_c_128, .ref h_g_129, .ref h_r_130, .ref h_k_131, .ref h_b_132, .int 0, .int 0, .int 0])), (h_l_127, .inl (γ.2.1 0, 5, .inl gh_l_133)), (h_c_128, .inl (γ.2.1 0, 5, .inl gh_c_134)), (h_g_129, .inl (γ.2.1 0, 5, .inl gh_g_135)), (h_r_130, .inl (γ.2.1 1, 5, .inr (.inl gh_r_136))), (h_k_131, .inl (γ.2.1 0, 40, .inl gh_k_137)), (h_b_132, .inl (γ.2.1 0, 8, .inl gh_b_138))] s H locs := by rw [ef_145]; exact hw
  have h_146 : f_145 0 = some q_105 := by rw [ef_145]; exact h_125
  have h_147 : f_145 1 = some q_126 := by rw [ef_145]; rfl
  refine lv_iinc (v := 2) (lv' := [(1, .int 2), (0, .ref h)]) hx hb dX9_init_34 hl (k := 0) rfl (by decide) (by decide) rfl (fun ls hl => ?_)
  refine lv_goto (tgt := 15) hx hb dX9_init_37 (by decide) ?_
  refine lv_iload_n hx hb dX9_init_15 rfl (lv_at hl 0 rfl) ?_
  refine lv_bipush (v := 16) hx hb dX9_init_16 (by decide) ?_
  refine lv_icmp_ge (tgt := 40) hx hb dX9_init_18 (by decide) (fun h => absurd h (by decide)) (fun _ => ?_)
  refine lv_aload_n hx hb dX9_init_21 rfl (lv_at hl 1 rfl) ?_
  refine fg_RX9_11 hC hw 0 rfl rfl dX9_init_22 ?_
  refine lv_iload_n hx hb dX9_init_25 rfl (lv_at hl 0 rfl) ?_
  refine k_new (ci := 7) hC hw in_RX7 tyX7 tyX7_ok gw_77 gw_79 gw_6 rfl nf_RX7 (by decide) (by decide) dX9_init_26 (fun q_148 H hw => ?_)
  have hw : kW γ A [(h, .inr (9, [.ref q_104, .int 0, .int 0])), (q_104, .inl (γ.2.1 5, 16, .inr (.inr (.inr (.inr f_145))))), (q_126, .inr (7, [.ref h_l_127, .ref h_c_128, .ref h_g_129, .ref h_r_130, .ref h_k_131, .ref h_b_132, .int 0, .int 0, .int 0])), (h_l_127, .inl (γ.2.1 0, 5, .inl gh_l_133)), (h_c_128, .inl (γ.2.1 0, 5, .inl gh_c_134)), (h_g_129, .inl (γ.2.1 0, 5, .inl gh_g_135)), (h_r_130, .inl (γ.2.1 1, 5, .inr (.inl gh_r_136))), (h_k_131, .inl (γ.2.1 0, 40, .inl gh_k_137)), (h_b_132, .inl (γ.2.1 0, 8, .inl gh_b_138)), (q_148, .inr (7, [.null, .null, .null, .null, .null, .null, .int 0, .int 0, .int 0]))] s H locs := hw
  refine W.widen (k := 16) (n := 179) (by decide) (by decide) ?_
  refine lv_dup hx hb dX9_init_29 rfl ?_
  refine k_I (wr := [(h, .inr (9, [.ref q_104, .int 0, .int 0])), (q_104, .inl (γ.2.1 5, 16, .inr (.inr (.inr (.inr f_145)))))]) 0 gw_80 gw_81 gw_6 gw_82 rfl hd_X7_init hC hw (c_X7_init γ l q_148) ⟨by decide, by decide⟩ ⟨by decide, by decide⟩ hl.1 rfl rfl (Nat.le_of_ble_eq_true rfl) [9] [0, 1] rfl rfl rfl rfl (by decide) dX9_init_30 (fun r w1 H locs hq hw => ?_)
  obtain ⟨h_l_149, h_c_150, h_g_151, h_r_152, h_k_153, h_b_154, gh_l_155, gh_c_156, gh_g_157, gh_r_158, gh_k_159, gh_b_160, rfl, rfl, g_161, g_162, g_163, g_164, g_165, g_166⟩ := hq
  have hw : kW γ A [(h, .inr (9, [.ref q_104, .int 0, .int 0])), (q_104, .inl (γ.2.1 5, 16, .inr (.inr (.inr (.inr f_145))))), (q_148, .inr (7, [.ref h_l_149, .ref h_c_150, .ref h_g_151, .ref h_r_152, .ref h_k_153, .ref h_b_154, .int 0, .int 0, .int 0])), (h_l_149, .inl (γ.2.1 0, 5, .inl gh_l_155)), (h_c_150, .inl (γ.2.1 0, 5, .inl gh_c_156)), (h_g_151, .inl (γ.2.1 0, 5, .inl gh_g_157)), (h_r_152, .inl (γ.2.1 1, 5, .inr (.inl gh_r_158))), (h_k_153, .inl (γ.2.1 0, 40, .inl gh_k_159)), (h_b_154, .inl (γ.2.1 0, 8, .inl gh_b_160))] s H locs := hw
  refine W.eq (g2 := F0 m 33 ls [.ref q_148, .int 2, .ref q_104]) rfl ?_
  refine W.widen (k := 22) (n := 247) (by decide) (by decide) ?_
  refine k_astq hC hw 1 5 2 7 rfl rfl rfl rfl (k_in0 (by decide)) dX9_init_33 (fun H locs hw => ?_)
  obtain ⟨f_167, ef_167⟩ : ∃ g, g = va_up f_145 (2 : Int32).toNatClampNeg (some q_148) := ⟨_, rfl⟩
  have hw : kW γ A [(h, .inr (9, [.ref q_104, .int 0, .int 0])), (q_104, .inl (γ.2.1 5, 16, .inr (.inr (.inr (.inr f_167))))), (q_148, .inr (7, [.ref h_l_149, .ref h_c_150, .ref h_g_151, .ref h_r_152, .ref h_k_153, .ref h_b_154, .int 0, .int 0, .int 0])), (h_l_149, .inl (γ.2.1 0, 5, .inl gh_l_155)), (h_c_150, .inl (γ.2.1 0, 5, .inl gh_c_156)), (h_g_151, .inl (γ.2.1 0, 5, .inl gh_g_157)), (h_r_152, .inl (γ.2.1 1, 5, .inr (.inl gh_r_158))), (h_k_153, .inl (γ.2.1 0, 40, .inl gh_k_159)), (h_b_154, .inl (γ.2.1 0, 8, .inl gh_b_160))] s H locs := by rw [ef_167]; exact hw
  have h_168 : f_167 0 = some q_105 := by rw [ef_167]; exact h_146
  have h_169 : f_167 1 = some q_126 := by rw [ef_167]; exact h_147
  have h_170 : f_167 2 = some q_148 := by rw [ef_167]; rfl
  refine lv_iinc (v := 3) (lv' := [(1, .int 3), (0, .ref h)]) hx hb dX9_init_34 hl (k := 0) rfl (by decide) (by decide) rfl (fun ls hl => ?_)
  refine lv_goto (tgt := 15) hx hb dX9_init_37 (by decide) ?_
  refine lv_iload_n hx hb dX9_init_15 rfl (lv_at hl 0 rfl) ?_
  refine lv_bipush (v := 16) hx hb dX9_init_16 (by decide) ?_
  refine lv_icmp_ge (tgt := 40) hx hb dX9_init_18 (by decide) (fun h => absurd h (by decide)) (fun _ => ?_)
  refine lv_aload_n hx hb dX9_init_21 rfl (lv_at hl 1 rfl) ?_
  refine fg_RX9_11 hC hw 0 rfl rfl dX9_init_22 ?_
  refine lv_iload_n hx hb dX9_init_25 rfl (lv_at hl 0 rfl) ?_
  refine k_new (ci := 7) hC hw in_RX7 tyX7 tyX7_ok gw_77 gw_79 gw_6 rfl nf_RX7 (by decide) (by decide) dX9_init_26 (fun q_171 H hw => ?_)
  have hw : kW γ A [(h, .inr (9, [.ref q_104, .int 0, .int 0])), (q_104, .inl (γ.2.1 5, 16, .inr (.inr (.inr (.inr f_167))))), (q_148, .inr (7, [.ref h_l_149, .ref h_c_150, .ref h_g_151, .ref h_r_152, .ref h_k_153, .ref h_b_154, .int 0, .int 0, .int 0])), (h_l_149, .inl (γ.2.1 0, 5, .inl gh_l_155)), (h_c_150, .inl (γ.2.1 0, 5, .inl gh_c_156)), (h_g_151, .inl (γ.2.1 0, 5, .inl gh_g_157)), (h_r_152, .inl (γ.2.1 1, 5, .inr (.inl gh_r_158))), (h_k_153, .inl (γ.2.1 0, 40, .inl gh_k_159)), (h_b_154, .inl (γ.2.1 0, 8, .inl gh_b_160)), (q_171, .inr (7, [.null, .null, .null, .null, .null, .null, .int 0, .int 0, .int 0]))] s H locs := hw
  refine W.widen (k := 23) (n := 256) (by decide) (by decide) ?_
  refine lv_dup hx hb dX9_init_29 rfl ?_
  refine k_I (wr := [(h, .inr (9, [.ref q_104, .int 0, .int 0])), (q_104, .inl (γ.2.1 5, 16, .inr (.inr (.inr (.inr f_167)))))]) 0 gw_80 gw_81 gw_6 gw_82 rfl hd_X7_init hC hw (c_X7_init γ l q_171) ⟨by decide, by decide⟩ ⟨by decide, by decide⟩ hl.1 rfl rfl (Nat.le_of_ble_eq_true rfl) [9] [0, 1] rfl rfl rfl rfl (by decide) dX9_init_30 (fun r w1 H locs hq hw => ?_)
  obtain ⟨h_l_172, h_c_173, h_g_174, h_r_175, h_k_176, h_b_177, gh_l_178, gh_c_179, gh_g_180, gh_r_181, gh_k_182, gh_b_183, rfl, rfl, g_184, g_185, g_186, g_187, g_188, g_189⟩ := hq
  have hw : kW γ A [(h, .inr (9, [.ref q_104, .int 0, .int 0])), (q_104, .inl (γ.2.1 5, 16, .inr (.inr (.inr (.inr f_167))))), (q_171, .inr (7, [.ref h_l_172, .ref h_c_173, .ref h_g_174, .ref h_r_175, .ref h_k_176, .ref h_b_177, .int 0, .int 0, .int 0])), (h_l_172, .inl (γ.2.1 0, 5, .inl gh_l_178)), (h_c_173, .inl (γ.2.1 0, 5, .inl gh_c_179)), (h_g_174, .inl (γ.2.1 0, 5, .inl gh_g_180)), (h_r_175, .inl (γ.2.1 1, 5, .inr (.inl gh_r_181))), (h_k_176, .inl (γ.2.1 0, 40, .inl gh_k_182)), (h_b_177, .inl (γ.2.1 0, 8, .inl gh_b_183))] s H locs := hw
  refine W.eq (g2 := F0 m 33 ls [.ref q_171, .int 3, .ref q_104]) rfl ?_
  refine W.widen (k := 29) (n := 324) (by decide) (by decide) ?_
  refine k_astq hC hw 1 5 2 7 rfl rfl rfl rfl (k_in0 (by decide)) dX9_init_33 (fun H locs hw => ?_)
  obtain ⟨f_190, ef_190⟩ : ∃ g, g = va_up f_167 (3 : Int32).toNatClampNeg (some q_171) := ⟨_, rfl⟩
  have hw : kW γ A [(h, .inr (9, [.ref q_104, .int 0, .int 0])), (q_104, .inl (γ.2.1 5, 16, .inr (.inr (.inr (.inr f_190))))), (q_171, .inr (7, [.ref h_l_172, .ref h_c_173, .ref h_g_174, .ref h_r_175, .ref h_k_176, .ref h_b_177, .int 0, .int 0, .int 0])), (h_l_172, .inl (γ.2.1 0, 5, .inl gh_l_178)), (h_c_173, .inl (γ.2.1 0, 5, .inl gh_c_179)), (h_g_174, .inl (γ.2.1 0, 5, .inl gh_g_180)), (h_r_175, .inl (γ.2.1 1, 5, .inr (.inl gh_r_181))), (h_k_176, .inl (γ.2.1 0, 40, .inl gh_k_182)), (h_b_177, .inl (γ.2.1 0, 8, .inl gh_b_183))] s H locs := by rw [ef_190]; exact hw
  have h_191 : f_190 0 = some q_105 := by rw [ef_190]; exact h_168
  have h_192 : f_190 1 = some q_126 := by rw [ef_190]; exact h_169
  have h_193 : f_190 2 = some q_148 := by rw [ef_190]; exact h_170
  have h_194 : f_190 3 = some q_171 := by rw [ef_190]; rfl
  refine lv_iinc (v := 4) (lv' := [(1, .int 4), (0, .ref h)]) hx hb dX9_init_34 hl (k := 0) rfl (by decide) (by decide) rfl (fun ls hl => ?_)
  refine lv_goto (tgt := 15) hx hb dX9_init_37 (by decide) ?_
  refine lv_iload_n hx hb dX9_init_15 rfl (lv_at hl 0 rfl) ?_
  refine lv_bipush (v := 16) hx hb dX9_init_16 (by decide) ?_
  refine lv_icmp_ge (tgt := 40) hx hb dX9_init_18 (by decide) (fun h => absurd h (by decide)) (fun _ => ?_)
  refine lv_aload_n hx hb dX9_init_21 rfl (lv_at hl 1 rfl) ?_
  refine fg_RX9_11 hC hw 0 rfl rfl dX9_init_22 ?_
  refine lv_iload_n hx hb dX9_init_25 rfl (lv_at hl 0 rfl) ?_
  refine k_new (ci := 7) hC hw in_RX7 tyX7 tyX7_ok gw_77 gw_79 gw_6 rfl nf_RX7 (by decide) (by decide) dX9_init_26 (fun q_195 H hw => ?_)
  have hw : kW γ A [(h, .inr (9, [.ref q_104, .int 0, .int 0])), (q_104, .inl (γ.2.1 5, 16, .inr (.inr (.inr (.inr f_190))))), (q_171, .inr (7, [.ref h_l_172, .ref h_c_173, .ref h_g_174, .ref h_r_175, .ref h_k_176, .ref h_b_177, .int 0, .int 0, .int 0])), (h_l_172, .inl (γ.2.1 0, 5, .inl gh_l_178)), (h_c_173, .inl (γ.2.1 0, 5, .inl gh_c_179)), (h_g_174, .inl (γ.2.1 0, 5, .inl gh_g_180)), (h_r_175, .inl (γ.2.1 1, 5, .inr (.inl gh_r_181))), (h_k_176, .inl (γ.2.1 0, 40, .inl gh_k_182)), (h_b_177, .inl (γ.2.1 0, 8, .inl gh_b_183)), (q_195, .inr (7, [.null, .null, .null, .null, .null, .null, .int 0, .int 0, .int 0]))] s H locs := hw
  refine W.widen (k := 30) (n := 333) (by decide) (by decide) ?_
  refine lv_dup hx hb dX9_init_29 rfl ?_
  refine k_I (wr := [(h, .inr (9, [.ref q_104, .int 0, .int 0])), (q_104, .inl (γ.2.1 5, 16, .inr (.inr (.inr (.inr f_190)))))]) 0 gw_80 gw_81 gw_6 gw_82 rfl hd_X7_init hC hw (c_X7_init γ l q_195) ⟨by decide, by decide⟩ ⟨by decide, by decide⟩ hl.1 rfl rfl (Nat.le_of_ble_eq_true rfl) [9] [0, 1] rfl rfl rfl rfl (by decide) dX9_init_30 (fun r w1 H locs hq hw => ?_)
  obtain ⟨h_l_196, h_c_197, h_g_198, h_r_199, h_k_200, h_b_201, gh_l_202, gh_c_203, gh_g_204, gh_r_205, gh_k_206, gh_b_207, rfl, rfl, g_208, g_209, g_210, g_211, g_212, g_213⟩ := hq
  have hw : kW γ A [(h, .inr (9, [.ref q_104, .int 0, .int 0])), (q_104, .inl (γ.2.1 5, 16, .inr (.inr (.inr (.inr f_190))))), (q_195, .inr (7, [.ref h_l_196, .ref h_c_197, .ref h_g_198, .ref h_r_199, .ref h_k_200, .ref h_b_201, .int 0, .int 0, .int 0])), (h_l_196, .inl (γ.2.1 0, 5, .inl gh_l_202)), (h_c_197, .inl (γ.2.1 0, 5, .inl gh_c_203)), (h_g_198, .inl (γ.2.1 0, 5, .inl gh_g_204)), (h_r_199, .inl (γ.2.1 1, 5, .inr (.inl gh_r_205))), (h_k_200, .inl (γ.2.1 0, 40, .inl gh_k_206)), (h_b_201, .inl (γ.2.1 0, 8, .inl gh_b_207))] s H locs := hw
  refine W.eq (g2 := F0 m 33 ls [.ref q_195, .int 4, .ref q_104]) rfl ?_
  refine W.widen (k := 36) (n := 401) (by decide) (by decide) ?_
  refine k_astq hC hw 1 5 2 7 rfl rfl rfl rfl (k_in0 (by decide)) dX9_init_33 (fun H locs hw => ?_)
  obtain ⟨f_214, ef_214⟩ : ∃ g, g = va_up f_190 (4 : Int32).toNatClampNeg (some q_195) := ⟨_, rfl⟩
  have hw : kW γ A [(h, .inr (9, [.ref q_104, .int 0, .int 0])), (q_104, .inl (γ.2.1 5, 16, .inr (.inr (.inr (.inr f_214))))), (q_195, .inr (7, [.ref h_l_196, .ref h_c_197, .ref h_g_198, .ref h_r_199, .ref h_k_200, .ref h_b_201, .int 0, .int 0, .int 0])), (h_l_196, .inl (γ.2.1 0, 5, .inl gh_l_202)), (h_c_197, .inl (γ.2.1 0, 5, .inl gh_c_203)), (h_g_198, .inl (γ.2.1 0, 5, .inl gh_g_204)), (h_r_199, .inl (γ.2.1 1, 5, .inr (.inl gh_r_205))), (h_k_200, .inl (γ.2.1 0, 40, .inl gh_k_206)), (h_b_201, .inl (γ.2.1 0, 8, .inl gh_b_207))] s H locs := by rw [ef_214]; exact hw
  have h_215 : f_214 0 = some q_105 := by rw [ef_214]; exact h_191
  have h_216 : f_214 1 = some q_126 := by rw [ef_214]; exact h_192
  have h_217 : f_214 2 = some q_148 := by rw [ef_214]; exact h_193
  have h_218 : f_214 3 = some q_171 := by rw [ef_214]; exact h_194
  have h_219 : f_214 4 = some q_195 := by rw [ef_214]; rfl
  refine lv_iinc (v := 5) (lv' := [(1, .int 5), (0, .ref h)]) hx hb dX9_init_34 hl (k := 0) rfl (by decide) (by decide) rfl (fun ls hl => ?_)
  refine lv_goto (tgt := 15) hx hb dX9_init_37 (by decide) ?_
  refine lv_iload_n hx hb dX9_init_15 rfl (lv_at hl 0 rfl) ?_
  refine lv_bipush (v := 16) hx hb dX9_init_16 (by decide) ?_
  refine lv_icmp_ge (tgt := 40) hx hb dX9_init_18 (by decide) (fun h => absurd h (by decide)) (fun _ => ?_)
  refine lv_aload_n hx hb dX9_init_21 rfl (lv_at hl 1 rfl) ?_
  refine fg_RX9_11 hC hw 0 rfl rfl dX9_init_22 ?_
  refine lv_iload_n hx hb dX9_init_25 rfl (lv_at hl 0 rfl) ?_
  refine k_new (ci := 7) hC hw in_RX7 tyX7 tyX7_ok gw_77 gw_79 gw_6 rfl nf_RX7 (by decide) (by decide) dX9_init_26 (fun q_220 H hw => ?_)
  have hw : kW γ A [(h, .inr (9, [.ref q_104, .int 0, .int 0])), (q_104, .inl (γ.2.1 5, 16, .inr (.inr (.inr (.inr f_214))))), (q_195, .inr (7, [.ref h_l_196, .ref h_c_197, .ref h_g_198, .ref h_r_199, .ref h_k_200, .ref h_b_201, .int 0, .int 0, .int 0])), (h_l_196, .inl (γ.2.1 0, 5, .inl gh_l_202)), (h_c_197, .inl (γ.2.1 0, 5, .inl gh_c_203)), (h_g_198, .inl (γ.2.1 0, 5, .inl gh_g_204)), (h_r_199, .inl (γ.2.1 1, 5, .inr (.inl gh_r_205))), (h_k_200, .inl (γ.2.1 0, 40, .inl gh_k_206)), (h_b_201, .inl (γ.2.1 0, 8, .inl gh_b_207)), (q_220, .inr (7, [.null, .null, .null, .null, .null, .null, .int 0, .int 0, .int 0]))] s H locs := hw
  refine W.widen (k := 37) (n := 410) (by decide) (by decide) ?_
  refine lv_dup hx hb dX9_init_29 rfl ?_
  refine k_I (wr := [(h, .inr (9, [.ref q_104, .int 0, .int 0])), (q_104, .inl (γ.2.1 5, 16, .inr (.inr (.inr (.inr f_214)))))]) 0 gw_80 gw_81 gw_6 gw_82 rfl hd_X7_init hC hw (c_X7_init γ l q_220) ⟨by decide, by decide⟩ ⟨by decide, by decide⟩ hl.1 rfl rfl (Nat.le_of_ble_eq_true rfl) [9] [0, 1] rfl rfl rfl rfl (by decide) dX9_init_30 (fun r w1 H locs hq hw => ?_)
  obtain ⟨h_l_221, h_c_222, h_g_223, h_r_224, h_k_225, h_b_226, gh_l_227, gh_c_228, gh_g_229, gh_r_230, gh_k_231, gh_b_232, rfl, rfl, g_233, g_234, g_235, g_236, g_237, g_238⟩ := hq
  have hw : kW γ A [(h, .inr (9, [.ref q_104, .int 0, .int 0])), (q_104, .inl (γ.2.1 5, 16, .inr (.inr (.inr (.inr f_214))))), (q_220, .inr (7, [.ref h_l_221, .ref h_c_222, .ref h_g_223, .ref h_r_224, .ref h_k_225, .ref h_b_226, .int 0, .int 0, .int 0])), (h_l_221, .inl (γ.2.1 0, 5, .inl gh_l_227)), (h_c_222, .inl (γ.2.1 0, 5, .inl gh_c_228)), (h_g_223, .inl (γ.2.1 0, 5, .inl gh_g_229)), (h_r_224, .inl (γ.2.1 1, 5, .inr (.inl gh_r_230))), (h_k_225, .inl (γ.2.1 0, 40, .inl gh_k_231)), (h_b_226, .inl (γ.2.1 0, 8, .inl gh_b_232))] s H locs := hw
  refine W.eq (g2 := F0 m 33 ls [.ref q_220, .int 5, .ref q_104]) rfl ?_
  refine W.widen (k := 43) (n := 478) (by decide) (by decide) ?_
  refine k_astq hC hw 1 5 2 7 rfl rfl rfl rfl (k_in0 (by decide)) dX9_init_33 (fun H locs hw => ?_)
  obtain ⟨f_239, ef_239⟩ : ∃ g, g = va_up f_214 (5 : Int32).toNatClampNeg (some q_220) := ⟨_, rfl⟩
  have hw : kW γ A [(h, .inr (9, [.ref q_104, .int 0, .int 0])), (q_104, .inl (γ.2.1 5, 16, .inr (.inr (.inr (.inr f_239))))), (q_220, .inr (7, [.ref h_l_221, .ref h_c_222, .ref h_g_223, .ref h_r_224, .ref h_k_225, .ref h_b_226, .int 0, .int 0, .int 0])), (h_l_221, .inl (γ.2.1 0, 5, .inl gh_l_227)), (h_c_222, .inl (γ.2.1 0, 5, .inl gh_c_228)), (h_g_223, .inl (γ.2.1 0, 5, .inl gh_g_229)), (h_r_224, .inl (γ.2.1 1, 5, .inr (.inl gh_r_230))), (h_k_225, .inl (γ.2.1 0, 40, .inl gh_k_231)), (h_b_226, .inl (γ.2.1 0, 8, .inl gh_b_232))] s H locs := by rw [ef_239]; exact hw
  have h_240 : f_239 0 = some q_105 := by rw [ef_239]; exact h_215
  have h_241 : f_239 1 = some q_126 := by rw [ef_239]; exact h_216
  have h_242 : f_239 2 = some q_148 := by rw [ef_239]; exact h_217
  have h_243 : f_239 3 = some q_171 := by rw [ef_239]; exact h_218
  have h_244 : f_239 4 = some q_195 := by rw [ef_239]; exact h_219
  have h_245 : f_239 5 = some q_220 := by rw [ef_239]; rfl
  refine lv_iinc (v := 6) (lv' := [(1, .int 6), (0, .ref h)]) hx hb dX9_init_34 hl (k := 0) rfl (by decide) (by decide) rfl (fun ls hl => ?_)
  refine lv_goto (tgt := 15) hx hb dX9_init_37 (by decide) ?_
  refine lv_iload_n hx hb dX9_init_15 rfl (lv_at hl 0 rfl) ?_
  refine lv_bipush (v := 16) hx hb dX9_init_16 (by decide) ?_
  refine lv_icmp_ge (tgt := 40) hx hb dX9_init_18 (by decide) (fun h => absurd h (by decide)) (fun _ => ?_)
  refine lv_aload_n hx hb dX9_init_21 rfl (lv_at hl 1 rfl) ?_
  refine fg_RX9_11 hC hw 0 rfl rfl dX9_init_22 ?_
  refine lv_iload_n hx hb dX9_init_25 rfl (lv_at hl 0 rfl) ?_
  refine k_new (ci := 7) hC hw in_RX7 tyX7 tyX7_ok gw_77 gw_79 gw_6 rfl nf_RX7 (by decide) (by decide) dX9_init_26 (fun q_246 H hw => ?_)
  have hw : kW γ A [(h, .inr (9, [.ref q_104, .int 0, .int 0])), (q_104, .inl (γ.2.1 5, 16, .inr (.inr (.inr (.inr f_239))))), (q_220, .inr (7, [.ref h_l_221, .ref h_c_222, .ref h_g_223, .ref h_r_224, .ref h_k_225, .ref h_b_226, .int 0, .int 0, .int 0])), (h_l_221, .inl (γ.2.1 0, 5, .inl gh_l_227)), (h_c_222, .inl (γ.2.1 0, 5, .inl gh_c_228)), (h_g_223, .inl (γ.2.1 0, 5, .inl gh_g_229)), (h_r_224, .inl (γ.2.1 1, 5, .inr (.inl gh_r_230))), (h_k_225, .inl (γ.2.1 0, 40, .inl gh_k_231)), (h_b_226, .inl (γ.2.1 0, 8, .inl gh_b_232)), (q_246, .inr (7, [.null, .null, .null, .null, .null, .null, .int 0, .int 0, .int 0]))] s H locs := hw
  refine W.widen (k := 44) (n := 487) (by decide) (by decide) ?_
  refine lv_dup hx hb dX9_init_29 rfl ?_
  refine k_I (wr := [(h, .inr (9, [.ref q_104, .int 0, .int 0])), (q_104, .inl (γ.2.1 5, 16, .inr (.inr (.inr (.inr f_239)))))]) 0 gw_80 gw_81 gw_6 gw_82 rfl hd_X7_init hC hw (c_X7_init γ l q_246) ⟨by decide, by decide⟩ ⟨by decide, by decide⟩ hl.1 rfl rfl (Nat.le_of_ble_eq_true rfl) [9] [0, 1] rfl rfl rfl rfl (by decide) dX9_init_30 (fun r w1 H locs hq hw => ?_)
  obtain ⟨h_l_247, h_c_248, h_g_249, h_r_250, h_k_251, h_b_252, gh_l_253, gh_c_254, gh_g_255, gh_r_256, gh_k_257, gh_b_258, rfl, rfl, g_259, g_260, g_261, g_262, g_263, g_264⟩ := hq
  have hw : kW γ A [(h, .inr (9, [.ref q_104, .int 0, .int 0])), (q_104, .inl (γ.2.1 5, 16, .inr (.inr (.inr (.inr f_239))))), (q_246, .inr (7, [.ref h_l_247, .ref h_c_248, .ref h_g_249, .ref h_r_250, .ref h_k_251, .ref h_b_252, .int 0, .int 0, .int 0])), (h_l_247, .inl (γ.2.1 0, 5, .inl gh_l_253)), (h_c_248, .inl (γ.2.1 0, 5, .inl gh_c_254)), (h_g_249, .inl (γ.2.1 0, 5, .inl gh_g_255)), (h_r_250, .inl (γ.2.1 1, 5, .inr (.inl gh_r_256))), (h_k_251, .inl (γ.2.1 0, 40, .inl gh_k_257)), (h_b_252, .inl (γ.2.1 0, 8, .inl gh_b_258))] s H locs := hw
  refine W.eq (g2 := F0 m 33 ls [.ref q_246, .int 6, .ref q_104]) rfl ?_
  refine W.widen (k := 50) (n := 555) (by decide) (by decide) ?_
  refine k_astq hC hw 1 5 2 7 rfl rfl rfl rfl (k_in0 (by decide)) dX9_init_33 (fun H locs hw => ?_)
  obtain ⟨f_265, ef_265⟩ : ∃ g, g = va_up f_239 (6 : Int32).toNatClampNeg (some q_246) := ⟨_, rfl⟩
  have hw : kW γ A [(h, .inr (9, [.ref q_104, .int 0, .int 0])), (q_104, .inl (γ.2.1 5, 16, .inr (.inr (.inr (.inr f_265))))), (q_246, .inr (7, [.ref h_l_247, .ref h_c_248, .ref h_g_249, .ref h_r_250, .ref h_k_251, .ref h_b_252, .int 0, .int 0, .int 0])), (h_l_247, .inl (γ.2.1 0, 5, .inl gh_l_253)), (h_c_248, .inl (γ.2.1 0, 5, .inl gh_c_254)), (h_g_249, .inl (γ.2.1 0, 5, .inl gh_g_255)), (h_r_250, .inl (γ.2.1 1, 5, .inr (.inl gh_r_256))), (h_k_251, .inl (γ.2.1 0, 40, .inl gh_k_257)), (h_b_252, .inl (γ.2.1 0, 8, .inl gh_b_258))] s H locs := by rw [ef_265]; exact hw
  have h_266 : f_265 0 = some q_105 := by rw [ef_265]; exact h_240
  have h_267 : f_265 1 = some q_126 := by rw [ef_265]; exact h_241
  have h_268 : f_265 2 = some q_148 := by rw [ef_265]; exact h_242
  have h_269 : f_265 3 = some q_171 := by rw [ef_265]; exact h_243
  have h_270 : f_265 4 = some q_195 := by rw [ef_265]; exact h_244
  have h_271 : f_265 5 = some q_220 := by rw [ef_265]; exact h_245
  have h_272 : f_265 6 = some q_246 := by rw [ef_265]; rfl
  refine lv_iinc (v := 7) (lv' := [(1, .int 7), (0, .ref h)]) hx hb dX9_init_34 hl (k := 0) rfl (by decide) (by decide) rfl (fun ls hl => ?_)
  refine lv_goto (tgt := 15) hx hb dX9_init_37 (by decide) ?_
  refine lv_iload_n hx hb dX9_init_15 rfl (lv_at hl 0 rfl) ?_
  refine lv_bipush (v := 16) hx hb dX9_init_16 (by decide) ?_
  refine lv_icmp_ge (tgt := 40) hx hb dX9_init_18 (by decide) (fun h => absurd h (by decide)) (fun _ => ?_)
  refine lv_aload_n hx hb dX9_init_21 rfl (lv_at hl 1 rfl) ?_
  refine fg_RX9_11 hC hw 0 rfl rfl dX9_init_22 ?_
  refine lv_iload_n hx hb dX9_init_25 rfl (lv_at hl 0 rfl) ?_
  refine k_new (ci := 7) hC hw in_RX7 tyX7 tyX7_ok gw_77 gw_79 gw_6 rfl nf_RX7 (by decide) (by decide) dX9_init_26 (fun q_273 H hw => ?_)
  have hw : kW γ A [(h, .inr (9, [.ref q_104, .int 0, .int 0])), (q_104, .inl (γ.2.1 5, 16, .inr (.inr (.inr (.inr f_265))))), (q_246, .inr (7, [.ref h_l_247, .ref h_c_248, .ref h_g_249, .ref h_r_250, .ref h_k_251, .ref h_b_252, .int 0, .int 0, .int 0])), (h_l_247, .inl (γ.2.1 0, 5, .inl gh_l_253)), (h_c_248, .inl (γ.2.1 0, 5, .inl gh_c_254)), (h_g_249, .inl (γ.2.1 0, 5, .inl gh_g_255)), (h_r_250, .inl (γ.2.1 1, 5, .inr (.inl gh_r_256))), (h_k_251, .inl (γ.2.1 0, 40, .inl gh_k_257)), (h_b_252, .inl (γ.2.1 0, 8, .inl gh_b_258)), (q_273, .inr (7, [.null, .null, .null, .null, .null, .null, .int 0, .int 0, .int 0]))] s H locs := hw
  refine W.widen (k := 51) (n := 564) (by decide) (by decide) ?_
  refine lv_dup hx hb dX9_init_29 rfl ?_
  refine k_I (wr := [(h, .inr (9, [.ref q_104, .int 0, .int 0])), (q_104, .inl (γ.2.1 5, 16, .inr (.inr (.inr (.inr f_265)))))]) 0 gw_80 gw_81 gw_6 gw_82 rfl hd_X7_init hC hw (c_X7_init γ l q_273) ⟨by decide, by decide⟩ ⟨by decide, by decide⟩ hl.1 rfl rfl (Nat.le_of_ble_eq_true rfl) [9] [0, 1] rfl rfl rfl rfl (by decide) dX9_init_30 (fun r w1 H locs hq hw => ?_)
  obtain ⟨h_l_274, h_c_275, h_g_276, h_r_277, h_k_278, h_b_279, gh_l_280, gh_c_281, gh_g_282, gh_r_283, gh_k_284, gh_b_285, rfl, rfl, g_286, g_287, g_288, g_289, g_290, g_291⟩ := hq
  have hw : kW γ A [(h, .inr (9, [.ref q_104, .int 0, .int 0])), (q_104, .inl (γ.2.1 5, 16, .inr (.inr (.inr (.inr f_265))))), (q_273, .inr (7, [.ref h_l_274, .ref h_c_275, .ref h_g_276, .ref h_r_277, .ref h_k_278, .ref h_b_279, .int 0, .int 0, .int 0])), (h_l_274, .inl (γ.2.1 0, 5, .inl gh_l_280)), (h_c_275, .inl (γ.2.1 0, 5, .inl gh_c_281)), (h_g_276, .inl (γ.2.1 0, 5, .inl gh_g_282)), (h_r_277, .inl (γ.2.1 1, 5, .inr (.inl gh_r_283))), (h_k_278, .inl (γ.2.1 0, 40, .inl gh_k_284)), (h_b_279, .inl (γ.2.1 0, 8, .inl gh_b_285))] s H locs := hw
  refine W.eq (g2 := F0 m 33 ls [.ref q_273, .int 7, .ref q_104]) rfl ?_
  refine W.widen (k := 57) (n := 632) (by decide) (by decide) ?_
  refine k_astq hC hw 1 5 2 7 rfl rfl rfl rfl (k_in0 (by decide)) dX9_init_33 (fun H locs hw => ?_)
  obtain ⟨f_292, ef_292⟩ : ∃ g, g = va_up f_265 (7 : Int32).toNatClampNeg (some q_273) := ⟨_, rfl⟩
  have hw : kW γ A [(h, .inr (9, [.ref q_104, .int 0, .int 0])), (q_104, .inl (γ.2.1 5, 16, .inr (.inr (.inr (.inr f_292))))), (q_273, .inr (7, [.ref h_l_274, .ref h_c_275, .ref h_g_276, .ref h_r_277, .ref h_k_278, .ref h_b_279, .int 0, .int 0, .int 0])), (h_l_274, .inl (γ.2.1 0, 5, .inl gh_l_280)), (h_c_275, .inl (γ.2.1 0, 5, .inl gh_c_281)), (h_g_276, .inl (γ.2.1 0, 5, .inl gh_g_282)), (h_r_277, .inl (γ.2.1 1, 5, .inr (.inl gh_r_283))), (h_k_278, .inl (γ.2.1 0, 40, .inl gh_k_284)), (h_b_279, .inl (γ.2.1 0, 8, .inl gh_b_285))] s H locs := by rw [ef_292]; exact hw
  have h_293 : f_292 0 = some q_105 := by rw [ef_292]; exact h_266
  have h_294 : f_292 1 = some q_126 := by rw [ef_292]; exact h_267
  have h_295 : f_292 2 = some q_148 := by rw [ef_292]; exact h_268
  have h_296 : f_292 3 = some q_171 := by rw [ef_292]; exact h_269
  have h_297 : f_292 4 = some q_195 := by rw [ef_292]; exact h_270
  have h_298 : f_292 5 = some q_220 := by rw [ef_292]; exact h_271
  have h_299 : f_292 6 = some q_246 := by rw [ef_292]; exact h_272
  have h_300 : f_292 7 = some q_273 := by rw [ef_292]; rfl
  refine lv_iinc (v := 8) (lv' := [(1, .int 8), (0, .ref h)]) hx hb dX9_init_34 hl (k := 0) rfl (by decide) (by decide) rfl (fun ls hl => ?_)
  refine lv_goto (tgt := 15) hx hb dX9_init_37 (by decide) ?_
  refine lv_iload_n hx hb dX9_init_15 rfl (lv_at hl 0 rfl) ?_
  refine lv_bipush (v := 16) hx hb dX9_init_16 (by decide) ?_
  refine lv_icmp_ge (tgt := 40) hx hb dX9_init_18 (by decide) (fun h => absurd h (by decide)) (fun _ => ?_)
  refine lv_aload_n hx hb dX9_init_21 rfl (lv_at hl 1 rfl) ?_
  refine fg_RX9_11 hC hw 0 rfl rfl dX9_init_22 ?_
  refine lv_iload_n hx hb dX9_init_25 rfl (lv_at hl 0 rfl) ?_
  refine k_new (ci := 7) hC hw in_RX7 tyX7 tyX7_ok gw_77 gw_79 gw_6 rfl nf_RX7 (by decide) (by decide) dX9_init_26 (fun q_301 H hw => ?_)
  have hw : kW γ A [(h, .inr (9, [.ref q_104, .int 0, .int 0])), (q_104, .inl (γ.2.1 5, 16, .inr (.inr (.inr (.inr f_292))))), (q_273, .inr (7, [.ref h_l_274, .ref h_c_275, .ref h_g_276, .ref h_r_277, .ref h_k_278, .ref h_b_279, .int 0, .int 0, .int 0])), (h_l_274, .inl (γ.2.1 0, 5, .inl gh_l_280)), (h_c_275, .inl (γ.2.1 0, 5, .inl gh_c_281)), (h_g_276, .inl (γ.2.1 0, 5, .inl gh_g_282)), (h_r_277, .inl (γ.2.1 1, 5, .inr (.inl gh_r_283))), (h_k_278, .inl (γ.2.1 0, 40, .inl gh_k_284)), (h_b_279, .inl (γ.2.1 0, 8, .inl gh_b_285)), (q_301, .inr (7, [.null, .null, .null, .null, .null, .null, .int 0, .int 0, .int 0]))] s H locs := hw
  refine W.widen (k := 58) (n := 641) (by decide) (by decide) ?_
  refine lv_dup hx hb dX9_init_29 rfl ?_
  refine k_I (wr := [(h, .inr (9, [.ref q_104, .int 0, .int 0])), (q_104, .inl (γ.2.1 5, 16, .inr (.inr (.inr (.inr f_292)))))]) 0 gw_80 gw_81 gw_6 gw_82 rfl hd_X7_init hC hw (c_X7_init γ l q_301) ⟨by decide, by decide⟩ ⟨by decide, by decide⟩ hl.1 rfl rfl (Nat.le_of_ble_eq_true rfl) [9] [0, 1] rfl rfl rfl rfl (by decide) dX9_init_30 (fun r w1 H locs hq hw => ?_)
  obtain ⟨h_l_302, h_c_303, h_g_304, h_r_305, h_k_306, h_b_307, gh_l_308, gh_c_309, gh_g_310, gh_r_311, gh_k_312, gh_b_313, rfl, rfl, g_314, g_315, g_316, g_317, g_318, g_319⟩ := hq
  have hw : kW γ A [(h, .inr (9, [.ref q_104, .int 0, .int 0])), (q_104, .inl (γ.2.1 5, 16, .inr (.inr (.inr (.inr f_292))))), (q_301, .inr (7, [.ref h_l_302, .ref h_c_303, .ref h_g_304, .ref h_r_305, .ref h_k_306, .ref h_b_307, .int 0, .int 0, .int 0])), (h_l_302, .inl (γ.2.1 0, 5, .inl gh_l_308)), (h_c_303, .inl (γ.2.1 0, 5, .inl gh_c_309)), (h_g_304, .inl (γ.2.1 0, 5, .inl gh_g_310)), (h_r_305, .inl (γ.2.1 1, 5, .inr (.inl gh_r_311))), (h_k_306, .inl (γ.2.1 0, 40, .inl gh_k_312)), (h_b_307, .inl (γ.2.1 0, 8, .inl gh_b_313))] s H locs := hw
  refine W.eq (g2 := F0 m 33 ls [.ref q_301, .int 8, .ref q_104]) rfl ?_
  refine W.widen (k := 64) (n := 709) (by decide) (by decide) ?_
  refine k_astq hC hw 1 5 2 7 rfl rfl rfl rfl (k_in0 (by decide)) dX9_init_33 (fun H locs hw => ?_)
  obtain ⟨f_320, ef_320⟩ : ∃ g, g = va_up f_292 (8 : Int32).toNatClampNeg (some q_301) := ⟨_, rfl⟩
  have hw : kW γ A [(h, .inr (9, [.ref q_104, .int 0, .int 0])), (q_104, .inl (γ.2.1 5, 16, .inr (.inr (.inr (.inr f_320))))), (q_301, .inr (7, [.ref h_l_302, .ref h_c_303, .ref h_g_304, .ref h_r_305, .ref h_k_306, .ref h_b_307, .int 0, .int 0, .int 0])), (h_l_302, .inl (γ.2.1 0, 5, .inl gh_l_308)), (h_c_303, .inl (γ.2.1 0, 5, .inl gh_c_309)), (h_g_304, .inl (γ.2.1 0, 5, .inl gh_g_310)), (h_r_305, .inl (γ.2.1 1, 5, .inr (.inl gh_r_311))), (h_k_306, .inl (γ.2.1 0, 40, .inl gh_k_312)), (h_b_307, .inl (γ.2.1 0, 8, .inl gh_b_313))] s H locs := by rw [ef_320]; exact hw
  have h_321 : f_320 0 = some q_105 := by rw [ef_320]; exact h_293
  have h_322 : f_320 1 = some q_126 := by rw [ef_320]; exact h_294
  have h_323 : f_320 2 = some q_148 := by rw [ef_320]; exact h_295
  have h_324 : f_320 3 = some q_171 := by rw [ef_320]; exact h_296
  have h_325 : f_320 4 = some q_195 := by rw [ef_320]; exact h_297
  have h_326 : f_320 5 = some q_220 := by rw [ef_320]; exact h_298
  have h_327 : f_320 6 = some q_246 := by rw [ef_320]; exact h_299
  have h_328 : f_320 7 = some q_273 := by rw [ef_320]; exact h_300
  have h_329 : f_320 8 = some q_301 := by rw [ef_320]; rfl
  refine lv_iinc (v := 9) (lv' := [(1, .int 9), (0, .ref h)]) hx hb dX9_init_34 hl (k := 0) rfl (by decide) (by decide) rfl (fun ls hl => ?_)
  refine lv_goto (tgt := 15) hx hb dX9_init_37 (by decide) ?_
  refine lv_iload_n hx hb dX9_init_15 rfl (lv_at hl 0 rfl) ?_
  refine lv_bipush (v := 16) hx hb dX9_init_16 (by decide) ?_
  refine lv_icmp_ge (tgt := 40) hx hb dX9_init_18 (by decide) (fun h => absurd h (by decide)) (fun _ => ?_)
  refine lv_aload_n hx hb dX9_init_21 rfl (lv_at hl 1 rfl) ?_
  refine fg_RX9_11 hC hw 0 rfl rfl dX9_init_22 ?_
  refine lv_iload_n hx hb dX9_init_25 rfl (lv_at hl 0 rfl) ?_
  refine k_new (ci := 7) hC hw in_RX7 tyX7 tyX7_ok gw_77 gw_79 gw_6 rfl nf_RX7 (by decide) (by decide) dX9_init_26 (fun q_330 H hw => ?_)
  have hw : kW γ A [(h, .inr (9, [.ref q_104, .int 0, .int 0])), (q_104, .inl (γ.2.1 5, 16, .inr (.inr (.inr (.inr f_320))))), (q_301, .inr (7, [.ref h_l_302, .ref h_c_303, .ref h_g_304, .ref h_r_305, .ref h_k_306, .ref h_b_307, .int 0, .int 0, .int 0])), (h_l_302, .inl (γ.2.1 0, 5, .inl gh_l_308)), (h_c_303, .inl (γ.2.1 0, 5, .inl gh_c_309)), (h_g_304, .inl (γ.2.1 0, 5, .inl gh_g_310)), (h_r_305, .inl (γ.2.1 1, 5, .inr (.inl gh_r_311))), (h_k_306, .inl (γ.2.1 0, 40, .inl gh_k_312)), (h_b_307, .inl (γ.2.1 0, 8, .inl gh_b_313)), (q_330, .inr (7, [.null, .null, .null, .null, .null, .null, .int 0, .int 0, .int 0]))] s H locs := hw
  refine W.widen (k := 65) (n := 718) (by decide) (by decide) ?_
  refine lv_dup hx hb dX9_init_29 rfl ?_
  refine k_I (wr := [(h, .inr (9, [.ref q_104, .int 0, .int 0])), (q_104, .inl (γ.2.1 5, 16, .inr (.inr (.inr (.inr f_320)))))]) 0 gw_80 gw_81 gw_6 gw_82 rfl hd_X7_init hC hw (c_X7_init γ l q_330) ⟨by decide, by decide⟩ ⟨by decide, by decide⟩ hl.1 rfl rfl (Nat.le_of_ble_eq_true rfl) [9] [0, 1] rfl rfl rfl rfl (by decide) dX9_init_30 (fun r w1 H locs hq hw => ?_)
  obtain ⟨h_l_331, h_c_332, h_g_333, h_r_334, h_k_335, h_b_336, gh_l_337, gh_c_338, gh_g_339, gh_r_340, gh_k_341, gh_b_342, rfl, rfl, g_343, g_344, g_345, g_346, g_347, g_348⟩ := hq
  have hw : kW γ A [(h, .inr (9, [.ref q_104, .int 0, .int 0])), (q_104, .inl (γ.2.1 5, 16, .inr (.inr (.inr (.inr f_320))))), (q_330, .inr (7, [.ref h_l_331, .ref h_c_332, .ref h_g_333, .ref h_r_334, .ref h_k_335, .ref h_b_336, .int 0, .int 0, .int 0])), (h_l_331, .inl (γ.2.1 0, 5, .inl gh_l_337)), (h_c_332, .inl (γ.2.1 0, 5, .inl gh_c_338)), (h_g_333, .inl (γ.2.1 0, 5, .inl gh_g_339)), (h_r_334, .inl (γ.2.1 1, 5, .inr (.inl gh_r_340))), (h_k_335, .inl (γ.2.1 0, 40, .inl gh_k_341)), (h_b_336, .inl (γ.2.1 0, 8, .inl gh_b_342))] s H locs := hw
  refine W.eq (g2 := F0 m 33 ls [.ref q_330, .int 9, .ref q_104]) rfl ?_
  refine W.widen (k := 71) (n := 786) (by decide) (by decide) ?_
  refine k_astq hC hw 1 5 2 7 rfl rfl rfl rfl (k_in0 (by decide)) dX9_init_33 (fun H locs hw => ?_)
  obtain ⟨f_349, ef_349⟩ : ∃ g, g = va_up f_320 (9 : Int32).toNatClampNeg (some q_330) := ⟨_, rfl⟩
  have hw : kW γ A [(h, .inr (9, [.ref q_104, .int 0, .int 0])), (q_104, .inl (γ.2.1 5, 16, .inr (.inr (.inr (.inr f_349))))), (q_330, .inr (7, [.ref h_l_331, .ref h_c_332, .ref h_g_333, .ref h_r_334, .ref h_k_335, .ref h_b_336, .int 0, .int 0, .int 0])), (h_l_331, .inl (γ.2.1 0, 5, .inl gh_l_337)), (h_c_332, .inl (γ.2.1 0, 5, .inl gh_c_338)), (h_g_333, .inl (γ.2.1 0, 5, .inl gh_g_339)), (h_r_334, .inl (γ.2.1 1, 5, .inr (.inl gh_r_340))), (h_k_335, .inl (γ.2.1 0, 40, .inl gh_k_341)), (h_b_336, .inl (γ.2.1 0, 8, .inl gh_b_342))] s H locs := by rw [ef_349]; exact hw
  have h_350 : f_349 0 = some q_105 := by rw [ef_349]; exact h_321
  have h_351 : f_349 1 = some q_126 := by rw [ef_349]; exact h_322
  have h_352 : f_349 2 = some q_148 := by rw [ef_349]; exact h_323
  have h_353 : f_349 3 = some q_171 := by rw [ef_349]; exact h_324
  have h_354 : f_349 4 = some q_195 := by rw [ef_349]; exact h_325
  have h_355 : f_349 5 = some q_220 := by rw [ef_349]; exact h_326
  have h_356 : f_349 6 = some q_246 := by rw [ef_349]; exact h_327
  have h_357 : f_349 7 = some q_273 := by rw [ef_349]; exact h_328
  have h_358 : f_349 8 = some q_301 := by rw [ef_349]; exact h_329
  have h_359 : f_349 9 = some q_330 := by rw [ef_349]; rfl
  refine lv_iinc (v := 10) (lv' := [(1, .int 10), (0, .ref h)]) hx hb dX9_init_34 hl (k := 0) rfl (by decide) (by decide) rfl (fun ls hl => ?_)
  refine lv_goto (tgt := 15) hx hb dX9_init_37 (by decide) ?_
  refine lv_iload_n hx hb dX9_init_15 rfl (lv_at hl 0 rfl) ?_
  refine lv_bipush (v := 16) hx hb dX9_init_16 (by decide) ?_
  refine lv_icmp_ge (tgt := 40) hx hb dX9_init_18 (by decide) (fun h => absurd h (by decide)) (fun _ => ?_)
  refine lv_aload_n hx hb dX9_init_21 rfl (lv_at hl 1 rfl) ?_
  refine fg_RX9_11 hC hw 0 rfl rfl dX9_init_22 ?_
  refine lv_iload_n hx hb dX9_init_25 rfl (lv_at hl 0 rfl) ?_
  refine k_new (ci := 7) hC hw in_RX7 tyX7 tyX7_ok gw_77 gw_79 gw_6 rfl nf_RX7 (by decide) (by decide) dX9_init_26 (fun q_360 H hw => ?_)
  have hw : kW γ A [(h, .inr (9, [.ref q_104, .int 0, .int 0])), (q_104, .inl (γ.2.1 5, 16, .inr (.inr (.inr (.inr f_349))))), (q_330, .inr (7, [.ref h_l_331, .ref h_c_332, .ref h_g_333, .ref h_r_334, .ref h_k_335, .ref h_b_336, .int 0, .int 0, .int 0])), (h_l_331, .inl (γ.2.1 0, 5, .inl gh_l_337)), (h_c_332, .inl (γ.2.1 0, 5, .inl gh_c_338)), (h_g_333, .inl (γ.2.1 0, 5, .inl gh_g_339)), (h_r_334, .inl (γ.2.1 1, 5, .inr (.inl gh_r_340))), (h_k_335, .inl (γ.2.1 0, 40, .inl gh_k_341)), (h_b_336, .inl (γ.2.1 0, 8, .inl gh_b_342)), (q_360, .inr (7, [.null, .null, .null, .null, .null, .null, .int 0, .int 0, .int 0]))] s H locs := hw
  refine W.widen (k := 72) (n := 795) (by decide) (by decide) ?_
  refine lv_dup hx hb dX9_init_29 rfl ?_
  refine k_I (wr := [(h, .inr (9, [.ref q_104, .int 0, .int 0])), (q_104, .inl (γ.2.1 5, 16, .inr (.inr (.inr (.inr f_349)))))]) 0 gw_80 gw_81 gw_6 gw_82 rfl hd_X7_init hC hw (c_X7_init γ l q_360) ⟨by decide, by decide⟩ ⟨by decide, by decide⟩ hl.1 rfl rfl (Nat.le_of_ble_eq_true rfl) [9] [0, 1] rfl rfl rfl rfl (by decide) dX9_init_30 (fun r w1 H locs hq hw => ?_)
  obtain ⟨h_l_361, h_c_362, h_g_363, h_r_364, h_k_365, h_b_366, gh_l_367, gh_c_368, gh_g_369, gh_r_370, gh_k_371, gh_b_372, rfl, rfl, g_373, g_374, g_375, g_376, g_377, g_378⟩ := hq
  have hw : kW γ A [(h, .inr (9, [.ref q_104, .int 0, .int 0])), (q_104, .inl (γ.2.1 5, 16, .inr (.inr (.inr (.inr f_349))))), (q_360, .inr (7, [.ref h_l_361, .ref h_c_362, .ref h_g_363, .ref h_r_364, .ref h_k_365, .ref h_b_366, .int 0, .int 0, .int 0])), (h_l_361, .inl (γ.2.1 0, 5, .inl gh_l_367)), (h_c_362, .inl (γ.2.1 0, 5, .inl gh_c_368)), (h_g_363, .inl (γ.2.1 0, 5, .inl gh_g_369)), (h_r_364, .inl (γ.2.1 1, 5, .inr (.inl gh_r_370))), (h_k_365, .inl (γ.2.1 0, 40, .inl gh_k_371)), (h_b_366, .inl (γ.2.1 0, 8, .inl gh_b_372))] s H locs := hw
  refine W.eq (g2 := F0 m 33 ls [.ref q_360, .int 10, .ref q_104]) rfl ?_
  refine W.widen (k := 78) (n := 863) (by decide) (by decide) ?_
  refine k_astq hC hw 1 5 2 7 rfl rfl rfl rfl (k_in0 (by decide)) dX9_init_33 (fun H locs hw => ?_)
  obtain ⟨f_379, ef_379⟩ : ∃ g, g = va_up f_349 (10 : Int32).toNatClampNeg (some q_360) := ⟨_, rfl⟩
  have hw : kW γ A [(h, .inr (9, [.ref q_104, .int 0, .int 0])), (q_104, .inl (γ.2.1 5, 16, .inr (.inr (.inr (.inr f_379))))), (q_360, .inr (7, [.ref h_l_361, .ref h_c_362, .ref h_g_363, .ref h_r_364, .ref h_k_365, .ref h_b_366, .int 0, .int 0, .int 0])), (h_l_361, .inl (γ.2.1 0, 5, .inl gh_l_367)), (h_c_362, .inl (γ.2.1 0, 5, .inl gh_c_368)), (h_g_363, .inl (γ.2.1 0, 5, .inl gh_g_369)), (h_r_364, .inl (γ.2.1 1, 5, .inr (.inl gh_r_370))), (h_k_365, .inl (γ.2.1 0, 40, .inl gh_k_371)), (h_b_366, .inl (γ.2.1 0, 8, .inl gh_b_372))] s H locs := by rw [ef_379]; exact hw
  have h_380 : f_379 0 = some q_105 := by rw [ef_379]; exact h_350
  have h_381 : f_379 1 = some q_126 := by rw [ef_379]; exact h_351
  have h_382 : f_379 2 = some q_148 := by rw [ef_379]; exact h_352
  have h_383 : f_379 3 = some q_171 := by rw [ef_379]; exact h_353
  have h_384 : f_379 4 = some q_195 := by rw [ef_379]; exact h_354
  have h_385 : f_379 5 = some q_220 := by rw [ef_379]; exact h_355
  have h_386 : f_379 6 = some q_246 := by rw [ef_379]; exact h_356
  have h_387 : f_379 7 = some q_273 := by rw [ef_379]; exact h_357
  have h_388 : f_379 8 = some q_301 := by rw [ef_379]; exact h_358
  have h_389 : f_379 9 = some q_330 := by rw [ef_379]; exact h_359
  have h_390 : f_379 10 = some q_360 := by rw [ef_379]; rfl
  refine lv_iinc (v := 11) (lv' := [(1, .int 11), (0, .ref h)]) hx hb dX9_init_34 hl (k := 0) rfl (by decide) (by decide) rfl (fun ls hl => ?_)
  refine lv_goto (tgt := 15) hx hb dX9_init_37 (by decide) ?_
  refine lv_iload_n hx hb dX9_init_15 rfl (lv_at hl 0 rfl) ?_
  refine lv_bipush (v := 16) hx hb dX9_init_16 (by decide) ?_
  refine lv_icmp_ge (tgt := 40) hx hb dX9_init_18 (by decide) (fun h => absurd h (by decide)) (fun _ => ?_)
  refine lv_aload_n hx hb dX9_init_21 rfl (lv_at hl 1 rfl) ?_
  refine fg_RX9_11 hC hw 0 rfl rfl dX9_init_22 ?_
  refine lv_iload_n hx hb dX9_init_25 rfl (lv_at hl 0 rfl) ?_
  refine k_new (ci := 7) hC hw in_RX7 tyX7 tyX7_ok gw_77 gw_79 gw_6 rfl nf_RX7 (by decide) (by decide) dX9_init_26 (fun q_391 H hw => ?_)
  have hw : kW γ A [(h, .inr (9, [.ref q_104, .int 0, .int 0])), (q_104, .inl (γ.2.1 5, 16, .inr (.inr (.inr (.inr f_379))))), (q_360, .inr (7, [.ref h_l_361, .ref h_c_362, .ref h_g_363, .ref h_r_364, .ref h_k_365, .ref h_b_366, .int 0, .int 0, .int 0])), (h_l_361, .inl (γ.2.1 0, 5, .inl gh_l_367)), (h_c_362, .inl (γ.2.1 0, 5, .inl gh_c_368)), (h_g_363, .inl (γ.2.1 0, 5, .inl gh_g_369)), (h_r_364, .inl (γ.2.1 1, 5, .inr (.inl gh_r_370))), (h_k_365, .inl (γ.2.1 0, 40, .inl gh_k_371)), (h_b_366, .inl (γ.2.1 0, 8, .inl gh_b_372)), (q_391, .inr (7, [.null, .null, .null, .null, .null, .null, .int 0, .int 0, .int 0]))] s H locs := hw
  refine W.widen (k := 79) (n := 872) (by decide) (by decide) ?_
  refine lv_dup hx hb dX9_init_29 rfl ?_
  refine k_I (wr := [(h, .inr (9, [.ref q_104, .int 0, .int 0])), (q_104, .inl (γ.2.1 5, 16, .inr (.inr (.inr (.inr f_379)))))]) 0 gw_80 gw_81 gw_6 gw_82 rfl hd_X7_init hC hw (c_X7_init γ l q_391) ⟨by decide, by decide⟩ ⟨by decide, by decide⟩ hl.1 rfl rfl (Nat.le_of_ble_eq_true rfl) [9] [0, 1] rfl rfl rfl rfl (by decide) dX9_init_30 (fun r w1 H locs hq hw => ?_)
  obtain ⟨h_l_392, h_c_393, h_g_394, h_r_395, h_k_396, h_b_397, gh_l_398, gh_c_399, gh_g_400, gh_r_401, gh_k_402, gh_b_403, rfl, rfl, g_404, g_405, g_406, g_407, g_408, g_409⟩ := hq
  have hw : kW γ A [(h, .inr (9, [.ref q_104, .int 0, .int 0])), (q_104, .inl (γ.2.1 5, 16, .inr (.inr (.inr (.inr f_379))))), (q_391, .inr (7, [.ref h_l_392, .ref h_c_393, .ref h_g_394, .ref h_r_395, .ref h_k_396, .ref h_b_397, .int 0, .int 0, .int 0])), (h_l_392, .inl (γ.2.1 0, 5, .inl gh_l_398)), (h_c_393, .inl (γ.2.1 0, 5, .inl gh_c_399)), (h_g_394, .inl (γ.2.1 0, 5, .inl gh_g_400)), (h_r_395, .inl (γ.2.1 1, 5, .inr (.inl gh_r_401))), (h_k_396, .inl (γ.2.1 0, 40, .inl gh_k_402)), (h_b_397, .inl (γ.2.1 0, 8, .inl gh_b_403))] s H locs := hw
  refine W.eq (g2 := F0 m 33 ls [.ref q_391, .int 11, .ref q_104]) rfl ?_
  refine W.widen (k := 85) (n := 940) (by decide) (by decide) ?_
  refine k_astq hC hw 1 5 2 7 rfl rfl rfl rfl (k_in0 (by decide)) dX9_init_33 (fun H locs hw => ?_)
  obtain ⟨f_410, ef_410⟩ : ∃ g, g = va_up f_379 (11 : Int32).toNatClampNeg (some q_391) := ⟨_, rfl⟩
  have hw : kW γ A [(h, .inr (9, [.ref q_104, .int 0, .int 0])), (q_104, .inl (γ.2.1 5, 16, .inr (.inr (.inr (.inr f_410))))), (q_391, .inr (7, [.ref h_l_392, .ref h_c_393, .ref h_g_394, .ref h_r_395, .ref h_k_396, .ref h_b_397, .int 0, .int 0, .int 0])), (h_l_392, .inl (γ.2.1 0, 5, .inl gh_l_398)), (h_c_393, .inl (γ.2.1 0, 5, .inl gh_c_399)), (h_g_394, .inl (γ.2.1 0, 5, .inl gh_g_400)), (h_r_395, .inl (γ.2.1 1, 5, .inr (.inl gh_r_401))), (h_k_396, .inl (γ.2.1 0, 40, .inl gh_k_402)), (h_b_397, .inl (γ.2.1 0, 8, .inl gh_b_403))] s H locs := by rw [ef_410]; exact hw
  have h_411 : f_410 0 = some q_105 := by rw [ef_410]; exact h_380
  have h_412 : f_410 1 = some q_126 := by rw [ef_410]; exact h_381
  have h_413 : f_410 2 = some q_148 := by rw [ef_410]; exact h_382
  have h_414 : f_410 3 = some q_171 := by rw [ef_410]; exact h_383
  have h_415 : f_410 4 = some q_195 := by rw [ef_410]; exact h_384
  have h_416 : f_410 5 = some q_220 := by rw [ef_410]; exact h_385
  have h_417 : f_410 6 = some q_246 := by rw [ef_410]; exact h_386
  have h_418 : f_410 7 = some q_273 := by rw [ef_410]; exact h_387
  have h_419 : f_410 8 = some q_301 := by rw [ef_410]; exact h_388
  have h_420 : f_410 9 = some q_330 := by rw [ef_410]; exact h_389
  have h_421 : f_410 10 = some q_360 := by rw [ef_410]; exact h_390
  have h_422 : f_410 11 = some q_391 := by rw [ef_410]; rfl
  refine lv_iinc (v := 12) (lv' := [(1, .int 12), (0, .ref h)]) hx hb dX9_init_34 hl (k := 0) rfl (by decide) (by decide) rfl (fun ls hl => ?_)
  refine lv_goto (tgt := 15) hx hb dX9_init_37 (by decide) ?_
  refine lv_iload_n hx hb dX9_init_15 rfl (lv_at hl 0 rfl) ?_
  refine lv_bipush (v := 16) hx hb dX9_init_16 (by decide) ?_
  refine lv_icmp_ge (tgt := 40) hx hb dX9_init_18 (by decide) (fun h => absurd h (by decide)) (fun _ => ?_)
  refine lv_aload_n hx hb dX9_init_21 rfl (lv_at hl 1 rfl) ?_
  refine fg_RX9_11 hC hw 0 rfl rfl dX9_init_22 ?_
  refine lv_iload_n hx hb dX9_init_25 rfl (lv_at hl 0 rfl) ?_
  refine k_new (ci := 7) hC hw in_RX7 tyX7 tyX7_ok gw_77 gw_79 gw_6 rfl nf_RX7 (by decide) (by decide) dX9_init_26 (fun q_423 H hw => ?_)
  have hw : kW γ A [(h, .inr (9, [.ref q_104, .int 0, .int 0])), (q_104, .inl (γ.2.1 5, 16, .inr (.inr (.inr (.inr f_410))))), (q_391, .inr (7, [.ref h_l_392, .ref h_c_393, .ref h_g_394, .ref h_r_395, .ref h_k_396, .ref h_b_397, .int 0, .int 0, .int 0])), (h_l_392, .inl (γ.2.1 0, 5, .inl gh_l_398)), (h_c_393, .inl (γ.2.1 0, 5, .inl gh_c_399)), (h_g_394, .inl (γ.2.1 0, 5, .inl gh_g_400)), (h_r_395, .inl (γ.2.1 1, 5, .inr (.inl gh_r_401))), (h_k_396, .inl (γ.2.1 0, 40, .inl gh_k_402)), (h_b_397, .inl (γ.2.1 0, 8, .inl gh_b_403)), (q_423, .inr (7, [.null, .null, .null, .null, .null, .null, .int 0, .int 0, .int 0]))] s H locs := hw
  refine W.widen (k := 86) (n := 949) (by decide) (by decide) ?_
  refine lv_dup hx hb dX9_init_29 rfl ?_
  refine k_I (wr := [(h, .inr (9, [.ref q_104, .int 0, .int 0])), (q_104, .inl (γ.2.1 5, 16, .inr (.inr (.inr (.inr f_410)))))]) 0 gw_80 gw_81 gw_6 gw_82 rfl hd_X7_init hC hw (c_X7_init γ l q_423) ⟨by decide, by decide⟩ ⟨by decide, by decide⟩ hl.1 rfl rfl (Nat.le_of_ble_eq_true rfl) [9] [0, 1] rfl rfl rfl rfl (by decide) dX9_init_30 (fun r w1 H locs hq hw => ?_)
  obtain ⟨h_l_424, h_c_425, h_g_426, h_r_427, h_k_428, h_b_429, gh_l_430, gh_c_431, gh_g_432, gh_r_433, gh_k_434, gh_b_435, rfl, rfl, g_436, g_437, g_438, g_439, g_440, g_441⟩ := hq
  have hw : kW γ A [(h, .inr (9, [.ref q_104, .int 0, .int 0])), (q_104, .inl (γ.2.1 5, 16, .inr (.inr (.inr (.inr f_410))))), (q_423, .inr (7, [.ref h_l_424, .ref h_c_425, .ref h_g_426, .ref h_r_427, .ref h_k_428, .ref h_b_429, .int 0, .int 0, .int 0])), (h_l_424, .inl (γ.2.1 0, 5, .inl gh_l_430)), (h_c_425, .inl (γ.2.1 0, 5, .inl gh_c_431)), (h_g_426, .inl (γ.2.1 0, 5, .inl gh_g_432)), (h_r_427, .inl (γ.2.1 1, 5, .inr (.inl gh_r_433))), (h_k_428, .inl (γ.2.1 0, 40, .inl gh_k_434)), (h_b_429, .inl (γ.2.1 0, 8, .inl gh_b_435))] s H locs := hw
  refine W.eq (g2 := F0 m 33 ls [.ref q_423, .int 12, .ref q_104]) rfl ?_
  refine W.widen (k := 92) (n := 1017) (by decide) (by decide) ?_
  refine k_astq hC hw 1 5 2 7 rfl rfl rfl rfl (k_in0 (by decide)) dX9_init_33 (fun H locs hw => ?_)
  obtain ⟨f_442, ef_442⟩ : ∃ g, g = va_up f_410 (12 : Int32).toNatClampNeg (some q_423) := ⟨_, rfl⟩
  have hw : kW γ A [(h, .inr (9, [.ref q_104, .int 0, .int 0])), (q_104, .inl (γ.2.1 5, 16, .inr (.inr (.inr (.inr f_442))))), (q_423, .inr (7, [.ref h_l_424, .ref h_c_425, .ref h_g_426, .ref h_r_427, .ref h_k_428, .ref h_b_429, .int 0, .int 0, .int 0])), (h_l_424, .inl (γ.2.1 0, 5, .inl gh_l_430)), (h_c_425, .inl (γ.2.1 0, 5, .inl gh_c_431)), (h_g_426, .inl (γ.2.1 0, 5, .inl gh_g_432)), (h_r_427, .inl (γ.2.1 1, 5, .inr (.inl gh_r_433))), (h_k_428, .inl (γ.2.1 0, 40, .inl gh_k_434)), (h_b_429, .inl (γ.2.1 0, 8, .inl gh_b_435))] s H locs := by rw [ef_442]; exact hw
  have h_443 : f_442 0 = some q_105 := by rw [ef_442]; exact h_411
  have h_444 : f_442 1 = some q_126 := by rw [ef_442]; exact h_412
  have h_445 : f_442 2 = some q_148 := by rw [ef_442]; exact h_413
  have h_446 : f_442 3 = some q_171 := by rw [ef_442]; exact h_414
  have h_447 : f_442 4 = some q_195 := by rw [ef_442]; exact h_415
  have h_448 : f_442 5 = some q_220 := by rw [ef_442]; exact h_416
  have h_449 : f_442 6 = some q_246 := by rw [ef_442]; exact h_417
  have h_450 : f_442 7 = some q_273 := by rw [ef_442]; exact h_418
  have h_451 : f_442 8 = some q_301 := by rw [ef_442]; exact h_419
  have h_452 : f_442 9 = some q_330 := by rw [ef_442]; exact h_420
  have h_453 : f_442 10 = some q_360 := by rw [ef_442]; exact h_421
  have h_454 : f_442 11 = some q_391 := by rw [ef_442]; exact h_422
  have h_455 : f_442 12 = some q_423 := by rw [ef_442]; rfl
  refine lv_iinc (v := 13) (lv' := [(1, .int 13), (0, .ref h)]) hx hb dX9_init_34 hl (k := 0) rfl (by decide) (by decide) rfl (fun ls hl => ?_)
  refine lv_goto (tgt := 15) hx hb dX9_init_37 (by decide) ?_
  refine lv_iload_n hx hb dX9_init_15 rfl (lv_at hl 0 rfl) ?_
  refine lv_bipush (v := 16) hx hb dX9_init_16 (by decide) ?_
  refine lv_icmp_ge (tgt := 40) hx hb dX9_init_18 (by decide) (fun h => absurd h (by decide)) (fun _ => ?_)
  refine lv_aload_n hx hb dX9_init_21 rfl (lv_at hl 1 rfl) ?_
  refine fg_RX9_11 hC hw 0 rfl rfl dX9_init_22 ?_
  refine lv_iload_n hx hb dX9_init_25 rfl (lv_at hl 0 rfl) ?_
  refine k_new (ci := 7) hC hw in_RX7 tyX7 tyX7_ok gw_77 gw_79 gw_6 rfl nf_RX7 (by decide) (by decide) dX9_init_26 (fun q_456 H hw => ?_)
  have hw : kW γ A [(h, .inr (9, [.ref q_104, .int 0, .int 0])), (q_104, .inl (γ.2.1 5, 16, .inr (.inr (.inr (.inr f_442))))), (q_423, .inr (7, [.ref h_l_424, .ref h_c_425, .ref h_g_426, .ref h_r_427, .ref h_k_428, .ref h_b_429, .int 0, .int 0, .int 0])), (h_l_424, .inl (γ.2.1 0, 5, .inl gh_l_430)), (h_c_425, .inl (γ.2.1 0, 5, .inl gh_c_431)), (h_g_426, .inl (γ.2.1 0, 5, .inl gh_g_432)), (h_r_427, .inl (γ.2.1 1, 5, .inr (.inl gh_r_433))), (h_k_428, .inl (γ.2.1 0, 40, .inl gh_k_434)), (h_b_429, .inl (γ.2.1 0, 8, .inl gh_b_435)), (q_456, .inr (7, [.null, .null, .null, .null, .null, .null, .int 0, .int 0, .int 0]))] s H locs := hw
  refine W.widen (k := 93) (n := 1026) (by decide) (by decide) ?_
  refine lv_dup hx hb dX9_init_29 rfl ?_
  refine k_I (wr := [(h, .inr (9, [.ref q_104, .int 0, .int 0])), (q_104, .inl (γ.2.1 5, 16, .inr (.inr (.inr (.inr f_442)))))]) 0 gw_80 gw_81 gw_6 gw_82 rfl hd_X7_init hC hw (c_X7_init γ l q_456) ⟨by decide, by decide⟩ ⟨by decide, by decide⟩ hl.1 rfl rfl (Nat.le_of_ble_eq_true rfl) [9] [0, 1] rfl rfl rfl rfl (by decide) dX9_init_30 (fun r w1 H locs hq hw => ?_)
  obtain ⟨h_l_457, h_c_458, h_g_459, h_r_460, h_k_461, h_b_462, gh_l_463, gh_c_464, gh_g_465, gh_r_466, gh_k_467, gh_b_468, rfl, rfl, g_469, g_470, g_471, g_472, g_473, g_474⟩ := hq
  have hw : kW γ A [(h, .inr (9, [.ref q_104, .int 0, .int 0])), (q_104, .inl (γ.2.1 5, 16, .inr (.inr (.inr (.inr f_442))))), (q_456, .inr (7, [.ref h_l_457, .ref h_c_458, .ref h_g_459, .ref h_r_460, .ref h_k_461, .ref h_b_462, .int 0, .int 0, .int 0])), (h_l_457, .inl (γ.2.1 0, 5, .inl gh_l_463)), (h_c_458, .inl (γ.2.1 0, 5, .inl gh_c_464)), (h_g_459, .inl (γ.2.1 0, 5, .inl gh_g_465)), (h_r_460, .inl (γ.2.1 1, 5, .inr (.inl gh_r_466))), (h_k_461, .inl (γ.2.1 0, 40, .inl gh_k_467)), (h_b_462, .inl (γ.2.1 0, 8, .inl gh_b_468))] s H locs := hw
  refine W.eq (g2 := F0 m 33 ls [.ref q_456, .int 13, .ref q_104]) rfl ?_
  refine W.widen (k := 99) (n := 1094) (by decide) (by decide) ?_
  refine k_astq hC hw 1 5 2 7 rfl rfl rfl rfl (k_in0 (by decide)) dX9_init_33 (fun H locs hw => ?_)
  obtain ⟨f_475, ef_475⟩ : ∃ g, g = va_up f_442 (13 : Int32).toNatClampNeg (some q_456) := ⟨_, rfl⟩
  have hw : kW γ A [(h, .inr (9, [.ref q_104, .int 0, .int 0])), (q_104, .inl (γ.2.1 5, 16, .inr (.inr (.inr (.inr f_475))))), (q_456, .inr (7, [.ref h_l_457, .ref h_c_458, .ref h_g_459, .ref h_r_460, .ref h_k_461, .ref h_b_462, .int 0, .int 0, .int 0])), (h_l_457, .inl (γ.2.1 0, 5, .inl gh_l_463)), (h_c_458, .inl (γ.2.1 0, 5, .inl gh_c_464)), (h_g_459, .inl (γ.2.1 0, 5, .inl gh_g_465)), (h_r_460, .inl (γ.2.1 1, 5, .inr (.inl gh_r_466))), (h_k_461, .inl (γ.2.1 0, 40, .inl gh_k_467)), (h_b_462, .inl (γ.2.1 0, 8, .inl gh_b_468))] s H locs := by rw [ef_475]; exact hw
  have h_476 : f_475 0 = some q_105 := by rw [ef_475]; exact h_443
  have h_477 : f_475 1 = some q_126 := by rw [ef_475]; exact h_444
  have h_478 : f_475 2 = some q_148 := by rw [ef_475]; exact h_445
  have h_479 : f_475 3 = some q_171 := by rw [ef_475]; exact h_446
  have h_480 : f_475 4 = some q_195 := by rw [ef_475]; exact h_447
  have h_481 : f_475 5 = some q_220 := by rw [ef_475]; exact h_448
  have h_482 : f_475 6 = some q_246 := by rw [ef_475]; exact h_449
  have h_483 : f_475 7 = some q_273 := by rw [ef_475]; exact h_450
  have h_484 : f_475 8 = some q_301 := by rw [ef_475]; exact h_451
  have h_485 : f_475 9 = some q_330 := by rw [ef_475]; exact h_452
  have h_486 : f_475 10 = some q_360 := by rw [ef_475]; exact h_453
  have h_487 : f_475 11 = some q_391 := by rw [ef_475]; exact h_454
  have h_488 : f_475 12 = some q_423 := by rw [ef_475]; exact h_455
  have h_489 : f_475 13 = some q_456 := by rw [ef_475]; rfl
  refine lv_iinc (v := 14) (lv' := [(1, .int 14), (0, .ref h)]) hx hb dX9_init_34 hl (k := 0) rfl (by decide) (by decide) rfl (fun ls hl => ?_)
  refine lv_goto (tgt := 15) hx hb dX9_init_37 (by decide) ?_
  refine lv_iload_n hx hb dX9_init_15 rfl (lv_at hl 0 rfl) ?_
  refine lv_bipush (v := 16) hx hb dX9_init_16 (by decide) ?_
  refine lv_icmp_ge (tgt := 40) hx hb dX9_init_18 (by decide) (fun h => absurd h (by decide)) (fun _ => ?_)
  refine lv_aload_n hx hb dX9_init_21 rfl (lv_at hl 1 rfl) ?_
  refine fg_RX9_11 hC hw 0 rfl rfl dX9_init_22 ?_
  refine lv_iload_n hx hb dX9_init_25 rfl (lv_at hl 0 rfl) ?_
  refine k_new (ci := 7) hC hw in_RX7 tyX7 tyX7_ok gw_77 gw_79 gw_6 rfl nf_RX7 (by decide) (by decide) dX9_init_26 (fun q_490 H hw => ?_)
  have hw : kW γ A [(h, .inr (9, [.ref q_104, .int 0, .int 0])), (q_104, .inl (γ.2.1 5, 16, .inr (.inr (.inr (.inr f_475))))), (q_456, .inr (7, [.ref h_l_457, .ref h_c_458, .ref h_g_459, .ref h_r_460, .ref h_k_461, .ref h_b_462, .int 0, .int 0, .int 0])), (h_l_457, .inl (γ.2.1 0, 5, .inl gh_l_463)), (h_c_458, .inl (γ.2.1 0, 5, .inl gh_c_464)), (h_g_459, .inl (γ.2.1 0, 5, .inl gh_g_465)), (h_r_460, .inl (γ.2.1 1, 5, .inr (.inl gh_r_466))), (h_k_461, .inl (γ.2.1 0, 40, .inl gh_k_467)), (h_b_462, .inl (γ.2.1 0, 8, .inl gh_b_468)), (q_490, .inr (7, [.null, .null, .null, .null, .null, .null, .int 0, .int 0, .int 0]))] s H locs := hw
  refine W.widen (k := 100) (n := 1103) (by decide) (by decide) ?_
  refine lv_dup hx hb dX9_init_29 rfl ?_
  refine k_I (wr := [(h, .inr (9, [.ref q_104, .int 0, .int 0])), (q_104, .inl (γ.2.1 5, 16, .inr (.inr (.inr (.inr f_475)))))]) 0 gw_80 gw_81 gw_6 gw_82 rfl hd_X7_init hC hw (c_X7_init γ l q_490) ⟨by decide, by decide⟩ ⟨by decide, by decide⟩ hl.1 rfl rfl (Nat.le_of_ble_eq_true rfl) [9] [0, 1] rfl rfl rfl rfl (by decide) dX9_init_30 (fun r w1 H locs hq hw => ?_)
  obtain ⟨h_l_491, h_c_492, h_g_493, h_r_494, h_k_495, h_b_496, gh_l_497, gh_c_498, gh_g_499, gh_r_500, gh_k_501, gh_b_502, rfl, rfl, g_503, g_504, g_505, g_506, g_507, g_508⟩ := hq
  have hw : kW γ A [(h, .inr (9, [.ref q_104, .int 0, .int 0])), (q_104, .inl (γ.2.1 5, 16, .inr (.inr (.inr (.inr f_475))))), (q_490, .inr (7, [.ref h_l_491, .ref h_c_492, .ref h_g_493, .ref h_r_494, .ref h_k_495, .ref h_b_496, .int 0, .int 0, .int 0])), (h_l_491, .inl (γ.2.1 0, 5, .inl gh_l_497)), (h_c_492, .inl (γ.2.1 0, 5, .inl gh_c_498)), (h_g_493, .inl (γ.2.1 0, 5, .inl gh_g_499)), (h_r_494, .inl (γ.2.1 1, 5, .inr (.inl gh_r_500))), (h_k_495, .inl (γ.2.1 0, 40, .inl gh_k_501)), (h_b_496, .inl (γ.2.1 0, 8, .inl gh_b_502))] s H locs := hw
  refine W.eq (g2 := F0 m 33 ls [.ref q_490, .int 14, .ref q_104]) rfl ?_
  refine W.widen (k := 106) (n := 1171) (by decide) (by decide) ?_
  refine k_astq hC hw 1 5 2 7 rfl rfl rfl rfl (k_in0 (by decide)) dX9_init_33 (fun H locs hw => ?_)
  obtain ⟨f_509, ef_509⟩ : ∃ g, g = va_up f_475 (14 : Int32).toNatClampNeg (some q_490) := ⟨_, rfl⟩
  have hw : kW γ A [(h, .inr (9, [.ref q_104, .int 0, .int 0])), (q_104, .inl (γ.2.1 5, 16, .inr (.inr (.inr (.inr f_509))))), (q_490, .inr (7, [.ref h_l_491, .ref h_c_492, .ref h_g_493, .ref h_r_494, .ref h_k_495, .ref h_b_496, .int 0, .int 0, .int 0])), (h_l_491, .inl (γ.2.1 0, 5, .inl gh_l_497)), (h_c_492, .inl (γ.2.1 0, 5, .inl gh_c_498)), (h_g_493, .inl (γ.2.1 0, 5, .inl gh_g_499)), (h_r_494, .inl (γ.2.1 1, 5, .inr (.inl gh_r_500))), (h_k_495, .inl (γ.2.1 0, 40, .inl gh_k_501)), (h_b_496, .inl (γ.2.1 0, 8, .inl gh_b_502))] s H locs := by rw [ef_509]; exact hw
  have h_510 : f_509 0 = some q_105 := by rw [ef_509]; exact h_476
  have h_511 : f_509 1 = some q_126 := by rw [ef_509]; exact h_477
  have h_512 : f_509 2 = some q_148 := by rw [ef_509]; exact h_478
  have h_513 : f_509 3 = some q_171 := by rw [ef_509]; exact h_479
  have h_514 : f_509 4 = some q_195 := by rw [ef_509]; exact h_480
  have h_515 : f_509 5 = some q_220 := by rw [ef_509]; exact h_481
  have h_516 : f_509 6 = some q_246 := by rw [ef_509]; exact h_482
  have h_517 : f_509 7 = some q_273 := by rw [ef_509]; exact h_483
  have h_518 : f_509 8 = some q_301 := by rw [ef_509]; exact h_484
  have h_519 : f_509 9 = some q_330 := by rw [ef_509]; exact h_485
  have h_520 : f_509 10 = some q_360 := by rw [ef_509]; exact h_486
  have h_521 : f_509 11 = some q_391 := by rw [ef_509]; exact h_487
  have h_522 : f_509 12 = some q_423 := by rw [ef_509]; exact h_488
  have h_523 : f_509 13 = some q_456 := by rw [ef_509]; exact h_489
  have h_524 : f_509 14 = some q_490 := by rw [ef_509]; rfl
  refine lv_iinc (v := 15) (lv' := [(1, .int 15), (0, .ref h)]) hx hb dX9_init_34 hl (k := 0) rfl (by decide) (by decide) rfl (fun ls hl => ?_)
  refine lv_goto (tgt := 15) hx hb dX9_init_37 (by decide) ?_
  refine lv_iload_n hx hb dX9_init_15 rfl (lv_at hl 0 rfl) ?_
  refine lv_bipush (v := 16) hx hb dX9_init_16 (by decide) ?_
  refine lv_icmp_ge (tgt := 40) hx hb dX9_init_18 (by decide) (fun h => absurd h (by decide)) (fun _ => ?_)
  refine lv_aload_n hx hb dX9_init_21 rfl (lv_at hl 1 rfl) ?_
  refine fg_RX9_11 hC hw 0 rfl rfl dX9_init_22 ?_
  refine lv_iload_n hx hb dX9_init_25 rfl (lv_at hl 0 rfl) ?_
  refine k_new (ci := 7) hC hw in_RX7 tyX7 tyX7_ok gw_77 gw_79 gw_6 rfl nf_RX7 (by decide) (by decide) dX9_init_26 (fun q_525 H hw => ?_)
  have hw : kW γ A [(h, .inr (9, [.ref q_104, .int 0, .int 0])), (q_104, .inl (γ.2.1 5, 16, .inr (.inr (.inr (.inr f_509))))), (q_490, .inr (7, [.ref h_l_491, .ref h_c_492, .ref h_g_493, .ref h_r_494, .ref h_k_495, .ref h_b_496, .int 0, .int 0, .int 0])), (h_l_491, .inl (γ.2.1 0, 5, .inl gh_l_497)), (h_c_492, .inl (γ.2.1 0, 5, .inl gh_c_498)), (h_g_493, .inl (γ.2.1 0, 5, .inl gh_g_499)), (h_r_494, .inl (γ.2.1 1, 5, .inr (.inl gh_r_500))), (h_k_495, .inl (γ.2.1 0, 40, .inl gh_k_501)), (h_b_496, .inl (γ.2.1 0, 8, .inl gh_b_502)), (q_525, .inr (7, [.null, .null, .null, .null, .null, .null, .int 0, .int 0, .int 0]))] s H locs := hw
  refine W.widen (k := 107) (n := 1180) (by decide) (by decide) ?_
  refine lv_dup hx hb dX9_init_29 rfl ?_
  refine k_I (wr := [(h, .inr (9, [.ref q_104, .int 0, .int 0])), (q_104, .inl (γ.2.1 5, 16, .inr (.inr (.inr (.inr f_509)))))]) 0 gw_80 gw_81 gw_6 gw_82 rfl hd_X7_init hC hw (c_X7_init γ l q_525) ⟨by decide, by decide⟩ ⟨by decide, by decide⟩ hl.1 rfl rfl (Nat.le_of_ble_eq_true rfl) [9] [0, 1] rfl rfl rfl rfl (by decide) dX9_init_30 (fun r w1 H locs hq hw => ?_)
  obtain ⟨h_l_526, h_c_527, h_g_528, h_r_529, h_k_530, h_b_531, gh_l_532, gh_c_533, gh_g_534, gh_r_535, gh_k_536, gh_b_537, rfl, rfl, g_538, g_539, g_540, g_541, g_542, g_543⟩ := hq
  have hw : kW γ A [(h, .inr (9, [.ref q_104, .int 0, .int 0])), (q_104, .inl (γ.2.1 5, 16, .inr (.inr (.inr (.inr f_509))))), (q_525, .inr (7, [.ref h_l_526, .ref h_c_527, .ref h_g_528, .ref h_r_529, .ref h_k_530, .ref h_b_531, .int 0, .int 0, .int 0])), (h_l_526, .inl (γ.2.1 0, 5, .inl gh_l_532)), (h_c_527, .inl (γ.2.1 0, 5, .inl gh_c_533)), (h_g_528, .inl (γ.2.1 0, 5, .inl gh_g_534)), (h_r_529, .inl (γ.2.1 1, 5, .inr (.inl gh_r_535))), (h_k_530, .inl (γ.2.1 0, 40, .inl gh_k_536)), (h_b_531, .inl (γ.2.1 0, 8, .inl gh_b_537))] s H locs := hw
  refine W.eq (g2 := F0 m 33 ls [.ref q_525, .int 15, .ref q_104]) rfl ?_
  refine W.widen (k := 113) (n := 1248) (by decide) (by decide) ?_
  refine k_astq hC hw 1 5 2 7 rfl rfl rfl rfl (k_in0 (by decide)) dX9_init_33 (fun H locs hw => ?_)
  obtain ⟨f_544, ef_544⟩ : ∃ g, g = va_up f_509 (15 : Int32).toNatClampNeg (some q_525) := ⟨_, rfl⟩
  have hw : kW γ A [(h, .inr (9, [.ref q_104, .int 0, .int 0])), (q_104, .inl (γ.2.1 5, 16, .inr (.inr (.inr (.inr f_544))))), (q_525, .inr (7, [.ref h_l_526, .ref h_c_527, .ref h_g_528, .ref h_r_529, .ref h_k_530, .ref h_b_531, .int 0, .int 0, .int 0])), (h_l_526, .inl (γ.2.1 0, 5, .inl gh_l_532)), (h_c_527, .inl (γ.2.1 0, 5, .inl gh_c_533)), (h_g_528, .inl (γ.2.1 0, 5, .inl gh_g_534)), (h_r_529, .inl (γ.2.1 1, 5, .inr (.inl gh_r_535))), (h_k_530, .inl (γ.2.1 0, 40, .inl gh_k_536)), (h_b_531, .inl (γ.2.1 0, 8, .inl gh_b_537))] s H locs := by rw [ef_544]; exact hw
  have h_545 : f_544 0 = some q_105 := by rw [ef_544]; exact h_510
  have h_546 : f_544 1 = some q_126 := by rw [ef_544]; exact h_511
  have h_547 : f_544 2 = some q_148 := by rw [ef_544]; exact h_512
  have h_548 : f_544 3 = some q_171 := by rw [ef_544]; exact h_513
  have h_549 : f_544 4 = some q_195 := by rw [ef_544]; exact h_514
  have h_550 : f_544 5 = some q_220 := by rw [ef_544]; exact h_515
  have h_551 : f_544 6 = some q_246 := by rw [ef_544]; exact h_516
  have h_552 : f_544 7 = some q_273 := by rw [ef_544]; exact h_517
  have h_553 : f_544 8 = some q_301 := by rw [ef_544]; exact h_518
  have h_554 : f_544 9 = some q_330 := by rw [ef_544]; exact h_519
  have h_555 : f_544 10 = some q_360 := by rw [ef_544]; exact h_520
  have h_556 : f_544 11 = some q_391 := by rw [ef_544]; exact h_521
  have h_557 : f_544 12 = some q_423 := by rw [ef_544]; exact h_522
  have h_558 : f_544 13 = some q_456 := by rw [ef_544]; exact h_523
  have h_559 : f_544 14 = some q_490 := by rw [ef_544]; exact h_524
  have h_560 : f_544 15 = some q_525 := by rw [ef_544]; rfl
  refine lv_iinc (v := 16) (lv' := [(1, .int 16), (0, .ref h)]) hx hb dX9_init_34 hl (k := 0) rfl (by decide) (by decide) rfl (fun ls hl => ?_)
  refine lv_goto (tgt := 15) hx hb dX9_init_37 (by decide) ?_
  refine lv_iload_n hx hb dX9_init_15 rfl (lv_at hl 0 rfl) ?_
  refine lv_bipush (v := 16) hx hb dX9_init_16 (by decide) ?_
  refine lv_icmp_ge (tgt := 40) hx hb dX9_init_18 (by decide) (fun _ => ?_) (fun h => absurd (by decide) h)
  exact k_vret hC hr hlocks hw [0] rfl rfl ⟨q_104, rfl, rfl⟩ (by decide) (by decide) dX9_init_40

set_option maxHeartbeats 4000000 in
set_option maxRecDepth 100000 in
theorem c_X9_clear (γ : kΓ) (l : Launch) (h : Nat) (a : Nat) (nx : Int32) (mn : Int32) : kM γ l yX9_clear cX9_clear 1 none ({ frames := 0, cells := 0, slots := 0, locals := 0 } : Room) [.ref h] [(h, .inr (9, [.ref a, .int nx, .int mn]))] (fun r w1 => r = none ∧ w1 = [(h, .inr (9, [.ref a, .int nx, .int 0]))]) := by
  refine k_ofW (by decide) (Nat.le_of_ble_eq_true rfl) ?_
  intro p e s m below meth c A ls hC hr hlocks hname hw hl
  have hx := hC.1
  have hb := hC.2.1
  have hl : lv_has ls 1 [(0, .ref h)] := hl
  refine lv_aload_n hx hb dX9_clear_0 rfl (lv_at hl 0 rfl) ?_
  refine lv_iconst (v := 0) hx hb dX9_clear_1 (by decide) ?_
  refine fs_RX9_18 hC hw 0 rfl rfl rfl (Nat.le_of_ble_eq_true rfl) dX9_clear_2 (fun H locs hw => ?_)
  have hw : kW γ A [(h, .inr (9, [.ref a, .int nx, .int 0]))] s H locs := hw
  exact k_vret hC hr hlocks hw [0] rfl rfl ⟨rfl, rfl⟩ (by decide) (by decide) dX9_clear_5

set_option maxHeartbeats 4000000 in
set_option maxRecDepth 100000 in
theorem c_X9_takeBack (γ : kΓ) (l : Launch) (h : Nat) (a : Nat) (o : Nat) (nx : Int32) : kM γ l yX9_takeBack cX9_takeBack 2 ((some .boolean)) ({ frames := 0, cells := 0, slots := 0, locals := 0 } : Room) [.ref h, .ref o] [(h, .inr (9, [.ref a, .int nx, .int 0]))] (fun r w1 => r = some (.int 0) ∧ w1 = [(h, .inr (9, [.ref a, .int nx, .int 0]))]) := by
  refine k_ofW (by decide) (Nat.le_of_ble_eq_true rfl) ?_
  intro p e s m below meth c A ls hC hr hlocks hname hw hl
  have hx := hC.1
  have hb := hC.2.1
  have hl : lv_has ls 2 [(0, .ref h), (1, .ref o)] := hl
  refine lv_aload_n hx hb dX9_takeBack_0 rfl (lv_at hl 0 rfl) ?_
  refine fg_RX9_18 hC hw 0 rfl rfl dX9_takeBack_1 ?_
  refine lv_if_ne (tgt := 9) hx hb dX9_takeBack_4 (by decide) (fun h => absurd rfl h) (fun _ => ?_)
  refine lv_iconst (v := 0) hx hb dX9_takeBack_7 (by decide) ?_
  exact k_zret hC hr hlocks rfl hw [0] rfl rfl ⟨rfl, rfl⟩ (by decide) (by decide) dX9_takeBack_8

set_option maxHeartbeats 4000000 in
set_option maxRecDepth 100000 in
theorem c_X2_init (γ : kΓ) (l : Launch) (h : Nat) : kM γ l yX2_init cX2_init 1 none ({ frames := 3, cells := 7, slots := 77, locals := 64 } : Room) [.ref h] [(h, .inr (2, [.null, .int 0, .int 0, .int 0, .long 0]))] (fun r w1 => ∃ (hs : Nat), ∃ (hs_l : Nat), ∃ (hs_c : Nat), ∃ (hs_g : Nat), ∃ (hs_r : Nat), ∃ (hs_k : Nat), ∃ (hs_b : Nat), ∃ (ghs_l : Nat → Int32), ∃ (ghs_c : Nat → Int32), ∃ (ghs_g : Nat → Int32), ∃ (ghs_r : Nat → Int64), ∃ (ghs_k : Nat → Int32), ∃ (ghs_b : Nat → Int32), r = none ∧ w1 = [(h, .inr (2, [.ref hs, .int 0, .int 0, .int 0, .long 0])), (hs, .inr (7, [.ref hs_l, .ref hs_c, .ref hs_g, .ref hs_r, .ref hs_k, .ref hs_b, .int 0, .int 0, .int 0])), (hs_l, .inl (γ.2.1 0, 5, .inl ghs_l)), (hs_c, .inl (γ.2.1 0, 5, .inl ghs_c)), (hs_g, .inl (γ.2.1 0, 5, .inl ghs_g)), (hs_r, .inl (γ.2.1 1, 5, .inr (.inl ghs_r))), (hs_k, .inl (γ.2.1 0, 40, .inl ghs_k)), (hs_b, .inl (γ.2.1 0, 8, .inl ghs_b))] ∧ (∀ j, j < 5 → ghs_l j = (-1)) ∧ (∀ j, j < 5 → ghs_c j = 0) ∧ (∀ j, j < 5 → ghs_g j = 0) ∧ (∀ j, j < 5 → ghs_r j = 0) ∧ (∀ j, j < 40 → ghs_k j = 0) ∧ (∀ j, j < 8 → ghs_b j = 0)) := by
  refine k_ofW (by decide) (Nat.le_of_ble_eq_true rfl) ?_
  intro p e s m below meth c A ls hC hr hlocks hname hw hl
  have hx := hC.1
  have hb := hC.2.1
  have hin : meth.name = "<init>" := hname
  have hl : lv_has ls 1 [(0, .ref h)] := hl
  refine lv_aload_n hx hb dX2_init_0 rfl (lv_at hl 0 rfl) ?_
  refine k_objInit hC gw_186 hl.1 (by decide) (Nat.le_of_ble_eq_true rfl) dX2_init_1 ?_
  refine W.eq (g2 := F0 m 4 ls []) rfl ?_
  refine lv_aload_n hx hb dX2_init_4 rfl (lv_at hl 0 rfl) ?_
  refine k_new (ci := 7) hC hw in_RX7 tyX7 tyX7_ok gw_187 gw_79 gw_6 rfl nf_RX7 (by decide) (by decide) dX2_init_5 (fun q_561 H hw => ?_)
  have hw : kW γ A [(h, .inr (2, [.null, .int 0, .int 0, .int 0, .long 0])), (q_561, .inr (7, [.null, .null, .null, .null, .null, .null, .int 0, .int 0, .int 0]))] s H [] := hw
  refine W.widen (k := 1) (n := 9) (by decide) (by decide) ?_
  refine lv_dup hx hb dX2_init_8 rfl ?_
  refine k_I (wr := [(h, .inr (2, [.null, .int 0, .int 0, .int 0, .long 0]))]) 0 gw_188 gw_81 gw_6 gw_82 rfl hd_X7_init hC hw (c_X7_init γ l q_561) ⟨by decide, by decide⟩ ⟨by decide, by decide⟩ hl.1 rfl rfl (Nat.le_of_ble_eq_true rfl) [1] [0] rfl rfl rfl rfl (by decide) dX2_init_9 (fun r w1 H locs hq hw => ?_)
  obtain ⟨h_l_562, h_c_563, h_g_564, h_r_565, h_k_566, h_b_567, gh_l_568, gh_c_569, gh_g_570, gh_r_571, gh_k_572, gh_b_573, rfl, rfl, g_574, g_575, g_576, g_577, g_578, g_579⟩ := hq
  have hw : kW γ A [(h, .inr (2, [.null, .int 0, .int 0, .int 0, .long 0])), (q_561, .inr (7, [.ref h_l_562, .ref h_c_563, .ref h_g_564, .ref h_r_565, .ref h_k_566, .ref h_b_567, .int 0, .int 0, .int 0])), (h_l_562, .inl (γ.2.1 0, 5, .inl gh_l_568)), (h_c_563, .inl (γ.2.1 0, 5, .inl gh_c_569)), (h_g_564, .inl (γ.2.1 0, 5, .inl gh_g_570)), (h_r_565, .inl (γ.2.1 1, 5, .inr (.inl gh_r_571))), (h_k_566, .inl (γ.2.1 0, 40, .inl gh_k_572)), (h_b_567, .inl (γ.2.1 0, 8, .inl gh_b_573))] s H locs := hw
  refine W.eq (g2 := F0 m 12 ls [.ref q_561, .ref h]) rfl ?_
  refine W.widen (k := 7) (n := 77) (by decide) (by decide) ?_
  refine fs_RX2_12 hC hw hin 0 rfl rfl rfl (Nat.le_of_ble_eq_true rfl) dX2_init_12 (fun H locs hw => ?_)
  have hw : kW γ A [(h, .inr (2, [.ref q_561, .int 0, .int 0, .int 0, .long 0])), (q_561, .inr (7, [.ref h_l_562, .ref h_c_563, .ref h_g_564, .ref h_r_565, .ref h_k_566, .ref h_b_567, .int 0, .int 0, .int 0])), (h_l_562, .inl (γ.2.1 0, 5, .inl gh_l_568)), (h_c_563, .inl (γ.2.1 0, 5, .inl gh_c_569)), (h_g_564, .inl (γ.2.1 0, 5, .inl gh_g_570)), (h_r_565, .inl (γ.2.1 1, 5, .inr (.inl gh_r_571))), (h_k_566, .inl (γ.2.1 0, 40, .inl gh_k_572)), (h_b_567, .inl (γ.2.1 0, 8, .inl gh_b_573))] s H locs := hw
  exact k_vret hC hr hlocks hw [0, 1, 2, 3, 4, 5, 6, 7] rfl rfl ⟨q_561, h_l_562, h_c_563, h_g_564, h_r_565, h_k_566, h_b_567, gh_l_568, gh_c_569, gh_g_570, gh_r_571, gh_k_572, gh_b_573, rfl, rfl, g_574, g_575, g_576, g_577, g_578, g_579⟩ (by decide) (by decide) dX2_init_15

set_option maxHeartbeats 4000000 in
set_option maxRecDepth 100000 in
theorem c_X6_init (γ : kΓ) (l : Launch) (h : Nat) : kM γ l yX6_init cX6_init 1 none ({ frames := 1, cells := 2, slots := 16, locals := 24 } : Room) [.ref h] [(h, .inr (6, [.null, .null]))] (fun r w1 => ∃ (a0 : Nat), ∃ (a1 : Nat), r = none ∧ w1 = [(h, .inr (6, [.ref a0, .ref a1]))]) := by
  refine k_ofW (by decide) (Nat.le_of_ble_eq_true rfl) ?_
  intro p e s m below meth c A ls hC hr hlocks hname hw hl
  have hx := hC.1
  have hb := hC.2.1
  have hin : meth.name = "<init>" := hname
  have hl : lv_has ls 1 [(0, .ref h)] := hl
  refine lv_aload_n hx hb dX6_init_0 rfl (lv_at hl 0 rfl) ?_
  refine k_objInit hC gw_214 hl.1 (by decide) (Nat.le_of_ble_eq_true rfl) dX6_init_1 ?_
  refine W.eq (g2 := F0 m 4 ls []) rfl ?_
  refine lv_aload_n hx hb dX6_init_4 rfl (lv_at hl 0 rfl) ?_
  refine lv_bipush (v := 8) hx hb dX6_init_5 (by decide) ?_
  refine k_newa (atype := .int) (N' := 8) (a0 := (8, .inl (fun _ => 0))) hC hw rfl gw_132 0 rfl (fun _ h => by cases h) (fun _ => rfl) (by decide) (by decide) (by decide) (by decide) (by decide) dX6_init_7 (fun q_580 H hw => ?_)
  have hw : kW γ A [(h, .inr (6, [.null, .null])), (q_580, .inl (γ.2.1 0, 8, .inl (fun _ => 0)))] s H [] := hw
  refine W.widen (k := 1) (n := 8) (by decide) (by decide) ?_
  refine fs_RX6_9 hC hw hin 0 rfl rfl rfl (Nat.le_of_ble_eq_true rfl) dX6_init_9 (fun H locs hw => ?_)
  have hw : kW γ A [(h, .inr (6, [.ref q_580, .null])), (q_580, .inl (γ.2.1 0, 8, .inl (fun _ => 0)))] s H locs := hw
  refine lv_aload_n hx hb dX6_init_12 rfl (lv_at hl 0 rfl) ?_
  refine lv_bipush (v := 8) hx hb dX6_init_13 (by decide) ?_
  refine k_newa (atype := .int) (N' := 8) (a0 := (8, .inl (fun _ => 0))) hC hw rfl gw_132 0 rfl (fun _ h => by cases h) (fun _ => rfl) (by decide) (by decide) (by decide) (by decide) (by decide) dX6_init_15 (fun q_581 H hw => ?_)
  have hw : kW γ A [(h, .inr (6, [.ref q_580, .null])), (q_580, .inl (γ.2.1 0, 8, .inl (fun _ => 0))), (q_581, .inl (γ.2.1 0, 8, .inl (fun _ => 0)))] s H locs := hw
  refine W.widen (k := 2) (n := 16) (by decide) (by decide) ?_
  refine fs_RX6_15 hC hw hin 0 rfl rfl rfl (Nat.le_of_ble_eq_true rfl) dX6_init_17 (fun H locs hw => ?_)
  have hw : kW γ A [(h, .inr (6, [.ref q_580, .ref q_581])), (q_580, .inl (γ.2.1 0, 8, .inl (fun _ => 0))), (q_581, .inl (γ.2.1 0, 8, .inl (fun _ => 0)))] s H locs := hw
  exact k_vret hC hr hlocks hw [0] rfl rfl ⟨q_580, q_581, rfl, rfl⟩ (by decide) (by decide) dX6_init_20

set_option maxHeartbeats 4000000 in
set_option maxRecDepth 100000 in
theorem c_X1_init (γ : kΓ) (l : Launch) (h : Nat) : kM γ l yX1_init cX1_init 1 none ({ frames := 1, cells := 4, slots := 930, locals := 24 } : Room) [.ref h] [(h, .inr (1, [.null, .null, .null, .null, .int 0, .int 0]))] (fun r w1 => ∃ (a0 : Nat), ∃ (a1 : Nat), ∃ (a2 : Nat), ∃ (a3 : Nat), r = none ∧ w1 = [(h, .inr (1, [.ref a0, .ref a1, .ref a2, .ref a3, .int 0, .int 0]))]) := by
  refine k_ofW (by decide) (Nat.le_of_ble_eq_true rfl) ?_
  intro p e s m below meth c A ls hC hr hlocks hname hw hl
  have hx := hC.1
  have hb := hC.2.1
  have hin : meth.name = "<init>" := hname
  have hl : lv_has ls 1 [(0, .ref h)] := hl
  refine lv_aload_n hx hb dX1_init_0 rfl (lv_at hl 0 rfl) ?_
  refine k_objInit hC gw_228 hl.1 (by decide) (Nat.le_of_ble_eq_true rfl) dX1_init_1 ?_
  refine W.eq (g2 := F0 m 4 ls []) rfl ?_
  refine lv_aload_n hx hb dX1_init_4 rfl (lv_at hl 0 rfl) ?_
  refine lv_iconst (v := 5) hx hb dX1_init_5 (by decide) ?_
  refine k_newa (atype := .int) (N' := 5) (a0 := (5, .inl (fun _ => 0))) hC hw rfl gw_132 0 rfl (fun _ h => by cases h) (fun _ => rfl) (by decide) (by decide) (by decide) (by decide) (by decide) dX1_init_6 (fun q_582 H hw => ?_)
  have hw : kW γ A [(h, .inr (1, [.null, .null, .null, .null, .int 0, .int 0])), (q_582, .inl (γ.2.1 0, 5, .inl (fun _ => 0)))] s H [] := hw
  refine W.widen (k := 1) (n := 5) (by decide) (by decide) ?_
  refine fs_RX1_11 hC hw hin 0 rfl rfl rfl (Nat.le_of_ble_eq_true rfl) dX1_init_8 (fun H locs hw => ?_)
  have hw : kW γ A [(h, .inr (1, [.ref q_582, .null, .null, .null, .int 0, .int 0])), (q_582, .inl (γ.2.1 0, 5, .inl (fun _ => 0)))] s H locs := hw
  refine lv_aload_n hx hb dX1_init_11 rfl (lv_at hl 0 rfl) ?_
  refine lv_bipush (v := 40) hx hb dX1_init_12 (by decide) ?_
  refine k_newa (atype := .int) (N' := 40) (a0 := (40, .inl (fun _ => 0))) hC hw rfl gw_132 0 rfl (fun _ h => by cases h) (fun _ => rfl) (by decide) (by decide) (by decide) (by decide) (by decide) dX1_init_14 (fun q_583 H hw => ?_)
  have hw : kW γ A [(h, .inr (1, [.ref q_582, .null, .null, .null, .int 0, .int 0])), (q_582, .inl (γ.2.1 0, 5, .inl (fun _ => 0))), (q_583, .inl (γ.2.1 0, 40, .inl (fun _ => 0)))] s H locs := hw
  refine W.widen (k := 2) (n := 45) (by decide) (by decide) ?_
  refine fs_RX1_17 hC hw hin 0 rfl rfl rfl (Nat.le_of_ble_eq_true rfl) dX1_init_16 (fun H locs hw => ?_)
  have hw : kW γ A [(h, .inr (1, [.ref q_582, .ref q_583, .null, .null, .int 0, .int 0])), (q_582, .inl (γ.2.1 0, 5, .inl (fun _ => 0))), (q_583, .inl (γ.2.1 0, 40, .inl (fun _ => 0)))] s H locs := hw
  refine lv_aload_n hx hb dX1_init_19 rfl (lv_at hl 0 rfl) ?_
  refine lv_iconst (v := 5) hx hb dX1_init_20 (by decide) ?_
  refine k_newa (atype := .boolean) (N' := 5) (a0 := (5, .inl (fun _ => 0))) hC hw rfl gw_249 3 rfl (fun _ h => by cases h) (fun _ => rfl) (by decide) (by decide) (by decide) (by decide) (by decide) dX1_init_21 (fun q_584 H hw => ?_)
  have hw : kW γ A [(h, .inr (1, [.ref q_582, .ref q_583, .null, .null, .int 0, .int 0])), (q_582, .inl (γ.2.1 0, 5, .inl (fun _ => 0))), (q_583, .inl (γ.2.1 0, 40, .inl (fun _ => 0))), (q_584, .inl (γ.2.1 3, 5, .inl (fun _ => 0)))] s H locs := hw
  refine W.widen (k := 3) (n := 50) (by decide) (by decide) ?_
  refine fs_RX1_20 hC hw hin 0 rfl rfl rfl (Nat.le_of_ble_eq_true rfl) dX1_init_23 (fun H locs hw => ?_)
  have hw : kW γ A [(h, .inr (1, [.ref q_582, .ref q_583, .ref q_584, .null, .int 0, .int 0])), (q_582, .inl (γ.2.1 0, 5, .inl (fun _ => 0))), (q_583, .inl (γ.2.1 0, 40, .inl (fun _ => 0))), (q_584, .inl (γ.2.1 3, 5, .inl (fun _ => 0)))] s H locs := hw
  refine lv_aload_n hx hb dX1_init_26 rfl (lv_at hl 0 rfl) ?_
  refine lv_sipush (v := 880) hx hb dX1_init_27 (by decide) ?_
  refine k_newa (atype := .int) (N' := 880) (a0 := (880, .inl (fun _ => 0))) hC hw rfl gw_132 0 rfl (fun _ h => by cases h) (fun _ => rfl) (by decide) (by decide) (by decide) (by decide) (by decide) dX1_init_30 (fun q_585 H hw => ?_)
  have hw : kW γ A [(h, .inr (1, [.ref q_582, .ref q_583, .ref q_584, .null, .int 0, .int 0])), (q_582, .inl (γ.2.1 0, 5, .inl (fun _ => 0))), (q_583, .inl (γ.2.1 0, 40, .inl (fun _ => 0))), (q_584, .inl (γ.2.1 3, 5, .inl (fun _ => 0))), (q_585, .inl (γ.2.1 0, 880, .inl (fun _ => 0)))] s H locs := hw
  refine W.widen (k := 4) (n := 930) (by decide) (by decide) ?_
  refine fs_RX1_24 hC hw hin 0 rfl rfl rfl (Nat.le_of_ble_eq_true rfl) dX1_init_32 (fun H locs hw => ?_)
  have hw : kW γ A [(h, .inr (1, [.ref q_582, .ref q_583, .ref q_584, .ref q_585, .int 0, .int 0])), (q_582, .inl (γ.2.1 0, 5, .inl (fun _ => 0))), (q_583, .inl (γ.2.1 0, 40, .inl (fun _ => 0))), (q_584, .inl (γ.2.1 3, 5, .inl (fun _ => 0))), (q_585, .inl (γ.2.1 0, 880, .inl (fun _ => 0)))] s H locs := hw
  exact k_vret hC hr hlocks hw [0] rfl rfl ⟨q_582, q_583, q_584, q_585, rfl, rfl⟩ (by decide) (by decide) dX1_init_35

set_option maxHeartbeats 4000000 in
set_option maxRecDepth 100000 in
theorem c_X4_init (γ : kΓ) (l : Launch) (h : Nat) : kM γ l yX4_init cX4_init 1 none ({ frames := 1, cells := 3, slots := 15, locals := 24 } : Room) [.ref h] [(h, .inr (4, [.null, .null, .null, .int 0, .int 0]))] (fun r w1 => ∃ (hc : Nat), ∃ (ht : Nat), ∃ (hd : Nat), ∃ (fc : Nat → Int32), ∃ (ft : Nat → Int32), r = none ∧ w1 = [(h, .inr (4, [.ref hc, .ref ht, .ref hd, .int 0, .int 0])), (hc, .inl (γ.2.1 0, 5, .inl fc)), (ht, .inl (γ.2.1 0, 5, .inl ft))]) := by
  refine k_ofW (by decide) (Nat.le_of_ble_eq_true rfl) ?_
  intro p e s m below meth c A ls hC hr hlocks hname hw hl
  have hx := hC.1
  have hb := hC.2.1
  have hin : meth.name = "<init>" := hname
  have hl : lv_has ls 1 [(0, .ref h)] := hl
  refine lv_aload_n hx hb dX4_init_0 rfl (lv_at hl 0 rfl) ?_
  refine k_objInit hC gw_255 hl.1 (by decide) (Nat.le_of_ble_eq_true rfl) dX4_init_1 ?_
  refine W.eq (g2 := F0 m 4 ls []) rfl ?_
  refine lv_aload_n hx hb dX4_init_4 rfl (lv_at hl 0 rfl) ?_
  refine lv_iconst (v := 5) hx hb dX4_init_5 (by decide) ?_
  refine k_newa (atype := .int) (N' := 5) (a0 := (5, .inl (fun _ => 0))) hC hw rfl gw_132 0 rfl (fun _ h => by cases h) (fun _ => rfl) (by decide) (by decide) (by decide) (by decide) (by decide) dX4_init_6 (fun q_586 H hw => ?_)
  have hw : kW γ A [(h, .inr (4, [.null, .null, .null, .int 0, .int 0])), (q_586, .inl (γ.2.1 0, 5, .inl (fun _ => 0)))] s H [] := hw
  refine W.widen (k := 1) (n := 5) (by decide) (by decide) ?_
  refine fs_RX4_9 hC hw hin 0 rfl rfl rfl (Nat.le_of_ble_eq_true rfl) dX4_init_8 (fun H locs hw => ?_)
  have hw : kW γ A [(h, .inr (4, [.ref q_586, .null, .null, .int 0, .int 0])), (q_586, .inl (γ.2.1 0, 5, .inl (fun _ => 0)))] s H locs := hw
  refine lv_aload_n hx hb dX4_init_11 rfl (lv_at hl 0 rfl) ?_
  refine lv_iconst (v := 5) hx hb dX4_init_12 (by decide) ?_
  refine k_newa (atype := .int) (N' := 5) (a0 := (5, .inl (fun _ => 0))) hC hw rfl gw_132 0 rfl (fun _ h => by cases h) (fun _ => rfl) (by decide) (by decide) (by decide) (by decide) (by decide) dX4_init_13 (fun q_587 H hw => ?_)
  have hw : kW γ A [(h, .inr (4, [.ref q_586, .null, .null, .int 0, .int 0])), (q_586, .inl (γ.2.1 0, 5, .inl (fun _ => 0))), (q_587, .inl (γ.2.1 0, 5, .inl (fun _ => 0)))] s H locs := hw
  refine W.widen (k := 2) (n := 10) (by decide) (by decide) ?_
  refine fs_RX4_15 hC hw hin 0 rfl rfl rfl (Nat.le_of_ble_eq_true rfl) dX4_init_15 (fun H locs hw => ?_)
  have hw : kW γ A [(h, .inr (4, [.ref q_586, .ref q_587, .null, .int 0, .int 0])), (q_586, .inl (γ.2.1 0, 5, .inl (fun _ => 0))), (q_587, .inl (γ.2.1 0, 5, .inl (fun _ => 0)))] s H locs := hw
  refine lv_aload_n hx hb dX4_init_18 rfl (lv_at hl 0 rfl) ?_
  refine lv_iconst (v := 5) hx hb dX4_init_19 (by decide) ?_
  refine k_newa (atype := .int) (N' := 5) (a0 := (5, .inl (fun _ => 0))) hC hw rfl gw_132 0 rfl (fun _ h => by cases h) (fun _ => rfl) (by decide) (by decide) (by decide) (by decide) (by decide) dX4_init_20 (fun q_588 H hw => ?_)
  have hw : kW γ A [(h, .inr (4, [.ref q_586, .ref q_587, .null, .int 0, .int 0])), (q_586, .inl (γ.2.1 0, 5, .inl (fun _ => 0))), (q_587, .inl (γ.2.1 0, 5, .inl (fun _ => 0))), (q_588, .inl (γ.2.1 0, 5, .inl (fun _ => 0)))] s H locs := hw
  refine W.widen (k := 3) (n := 15) (by decide) (by decide) ?_
  refine fs_RX4_18 hC hw hin 0 rfl rfl rfl (Nat.le_of_ble_eq_true rfl) dX4_init_22 (fun H locs hw => ?_)
  have hw : kW γ A [(h, .inr (4, [.ref q_586, .ref q_587, .ref q_588, .int 0, .int 0])), (q_586, .inl (γ.2.1 0, 5, .inl (fun _ => 0))), (q_587, .inl (γ.2.1 0, 5, .inl (fun _ => 0))), (q_588, .inl (γ.2.1 0, 5, .inl (fun _ => 0)))] s H locs := hw
  exact k_vret hC hr hlocks hw [0, 1, 2] rfl rfl ⟨q_586, q_587, q_588, (fun _ => 0), (fun _ => 0), rfl, rfl⟩ (by decide) (by decide) dX4_init_25

set_option maxHeartbeats 4000000 in
set_option maxRecDepth 100000 in
theorem c_X8_init (γ : kΓ) (l : Launch) (h : Nat) : kM γ l yX8_init cX8_init 1 none ({ frames := 1, cells := 1, slots := 1000, locals := 24 } : Room) [.ref h] [(h, .inr (8, [.null, .int 0, .int 0, .int 0, .int 0, .int 0, .long 0, .null]))] (fun r w1 => ∃ (hg : Nat), ∃ (fg : Nat → Int32), r = none ∧ w1 = [(h, .inr (8, [.ref hg, .int 0, .int 0, .int 0, .int 0, .int 0, .long 0, .ref γ.2.2.2])), (hg, .inl (γ.2.1 2, 1000, .inl fg))]) := by
  refine k_ofW (by decide) (Nat.le_of_ble_eq_true rfl) ?_
  intro p e s m below meth c A ls hC hr hlocks hname hw hl
  have hx := hC.1
  have hb := hC.2.1
  have hin : meth.name = "<init>" := hname
  have hl : lv_has ls 1 [(0, .ref h)] := hl
  refine lv_aload_n hx hb dX8_init_0 rfl (lv_at hl 0 rfl) ?_
  refine k_objInit hC gw_36 hl.1 (by decide) (Nat.le_of_ble_eq_true rfl) dX8_init_1 ?_
  refine W.eq (g2 := F0 m 4 ls []) rfl ?_
  refine lv_aload_n hx hb dX8_init_4 rfl (lv_at hl 0 rfl) ?_
  refine lv_sipush (v := 1000) hx hb dX8_init_5 (by decide) ?_
  refine k_newa (atype := .byte) (N' := 1000) (a0 := (1000, .inl (fun _ => 0))) hC hw rfl gw_70 2 rfl (fun _ h => by cases h) (fun _ => rfl) (by decide) (by decide) (by decide) (by decide) (by decide) dX8_init_8 (fun q_589 H hw => ?_)
  have hw : kW γ A [(h, .inr (8, [.null, .int 0, .int 0, .int 0, .int 0, .int 0, .long 0, .null])), (q_589, .inl (γ.2.1 2, 1000, .inl (fun _ => 0)))] s H [] := hw
  refine W.widen (k := 1) (n := 1000) (by decide) (by decide) ?_
  refine fs_RX8_9 hC hw hin 0 rfl rfl rfl (Nat.le_of_ble_eq_true rfl) dX8_init_10 (fun H locs hw => ?_)
  have hw : kW γ A [(h, .inr (8, [.ref q_589, .int 0, .int 0, .int 0, .int 0, .int 0, .long 0, .null])), (q_589, .inl (γ.2.1 2, 1000, .inl (fun _ => 0)))] s H locs := hw
  refine lv_aload_n hx hb dX8_init_13 rfl (lv_at hl 0 rfl) ?_
  refine k_nothing hC hw gw_37 dX8_init_14 ?_
  refine fs_RX8_21 hC hw 0 rfl rfl rfl (Nat.le_of_ble_eq_true rfl) dX8_init_17 (fun H locs hw => ?_)
  have hw : kW γ A [(h, .inr (8, [.ref q_589, .int 0, .int 0, .int 0, .int 0, .int 0, .long 0, .ref γ.2.2.2])), (q_589, .inl (γ.2.1 2, 1000, .inl (fun _ => 0)))] s H locs := hw
  exact k_vret hC hr hlocks hw [0, 1] rfl rfl ⟨q_589, (fun _ => 0), rfl, rfl⟩ (by decide) (by decide) dX8_init_20

set_option maxHeartbeats 4000000 in
set_option maxRecDepth 100000 in
theorem c_X8_empty (γ : kΓ) (l : Launch) (h : Nat) (hg : Nat) (t1 : Int32) (t2 : Int32) (t3 : Int32) (t4 : Int32) (t5 : Int32) (t6 : Int64) (t7 : Nat) : kM γ l yX8_empty cX8_empty 1 none ({ frames := 0, cells := 0, slots := 0, locals := 0 } : Room) [.ref h] [(h, .inr (8, [.ref hg, .int t1, .int t2, .int t3, .int t4, .int t5, .long t6, .ref t7]))] (fun r w1 => r = none ∧ w1 = [(h, .inr (8, [.ref hg, .int 0, .int t2, .int t3, .int t4, .int t5, .long t6, .ref t7]))]) := by
  refine k_ofW (by decide) (Nat.le_of_ble_eq_true rfl) ?_
  intro p e s m below meth c A ls hC hr hlocks hname hw hl
  have hx := hC.1
  have hb := hC.2.1
  have hl : lv_has ls 1 [(0, .ref h)] := hl
  refine lv_aload_n hx hb dX8_empty_0 rfl (lv_at hl 0 rfl) ?_
  refine lv_iconst (v := 0) hx hb dX8_empty_1 (by decide) ?_
  refine fs_RX8_24 hC hw 0 rfl rfl rfl (Nat.le_of_ble_eq_true rfl) dX8_empty_2 (fun H locs hw => ?_)
  have hw : kW γ A [(h, .inr (8, [.ref hg, .int 0, .int t2, .int t3, .int t4, .int t5, .long t6, .ref t7]))] s H locs := hw
  exact k_vret hC hr hlocks hw [0] rfl rfl ⟨rfl, rfl⟩ (by decide) (by decide) dX8_empty_5

set_option maxHeartbeats 4000000 in
set_option maxRecDepth 100000 in
theorem c_X8_advance (γ : kΓ) (l : Launch) (h : Nat) (hg : Nat) (t2 : Int32) (t4 : Int32) (t5 : Int32) (t6 : Int64) (t7 : Nat) : kM γ l yX8_advance cX8_advance 2 none ({ frames := 0, cells := 0, slots := 0, locals := 0 } : Room) [.ref h] [(h, .inr (8, [.ref hg, .int 0, .int t2, .int 0, .int t4, .int t5, .long t6, .ref t7]))] (fun r w1 => r = none ∧ w1 = [(h, .inr (8, [.ref hg, .int 0, .int 0, .int 0, .int 0, .int t5, .long t6, .ref γ.2.2.2]))]) := by
  refine k_ofW (by decide) (Nat.le_of_ble_eq_true rfl) ?_
  intro p e s m below meth c A ls hC hr hlocks hname hw hl
  have hx := hC.1
  have hb := hC.2.1
  have hl : lv_has ls 2 [(0, .ref h)] := hl
  refine lv_aload_n hx hb dX8_advance_0 rfl (lv_at hl 0 rfl) ?_
  refine fg_RX8_28 hC hw 0 rfl rfl dX8_advance_1 ?_
  refine lv_aload_n hx hb dX8_advance_4 rfl (lv_at hl 0 rfl) ?_
  refine fg_RX8_24 hC hw 0 rfl rfl dX8_advance_5 ?_
  refine lv_icmp_ge (tgt := 52) hx hb dX8_advance_8 (by decide) (fun _ => ?_) (fun h => absurd (by decide) h)
  refine lv_aload_n hx hb dX8_advance_52 rfl (lv_at hl 0 rfl) ?_
  refine lv_aload_n hx hb dX8_advance_53 rfl (lv_at hl 0 rfl) ?_
  refine fg_RX8_28 hC hw 0 rfl rfl dX8_advance_54 ?_
  refine fs_RX8_34 hC hw 0 rfl rfl rfl (Nat.le_of_ble_eq_true rfl) dX8_advance_57 (fun H locs hw => ?_)
  have hw : kW γ A [(h, .inr (8, [.ref hg, .int 0, .int 0, .int 0, .int t4, .int t5, .long t6, .ref t7]))] s H locs := hw
  refine lv_aload_n hx hb dX8_advance_60 rfl (lv_at hl 0 rfl) ?_
  refine k_nothing hC hw gw_37 dX8_advance_61 ?_
  refine fs_RX8_21 hC hw 0 rfl rfl rfl (Nat.le_of_ble_eq_true rfl) dX8_advance_64 (fun H locs hw => ?_)
  have hw : kW γ A [(h, .inr (8, [.ref hg, .int 0, .int 0, .int 0, .int t4, .int t5, .long t6, .ref γ.2.2.2]))] s H locs := hw
  refine lv_aload_n hx hb dX8_advance_67 rfl (lv_at hl 0 rfl) ?_
  refine fg_RX8_34 hC hw 0 rfl rfl dX8_advance_68 ?_
  refine lv_aload_n hx hb dX8_advance_71 rfl (lv_at hl 0 rfl) ?_
  refine fg_RX8_24 hC hw 0 rfl rfl dX8_advance_72 ?_
  refine lv_icmp_ge (tgt := 90) hx hb dX8_advance_75 (by decide) (fun _ => ?_) (fun h => absurd (by decide) h)
  refine lv_iconst (v := (-1)) hx hb dX8_advance_90 (by decide) ?_
  refine lv_istore_n (lv' := [(1, .int (-1)), (0, .ref h)]) hx hb dX8_advance_91 rfl hl (by decide) rfl (fun ls hl => ?_)
  refine lv_iload_n hx hb dX8_advance_92 rfl (lv_at hl 0 rfl) ?_
  refine lv_iconst (v := (-1)) hx hb dX8_advance_93 (by decide) ?_
  refine lv_icmp_ne (tgt := 105) hx hb dX8_advance_94 (by decide) (fun h => absurd rfl h) (fun _ => ?_)
  refine lv_aload_n hx hb dX8_advance_97 rfl (lv_at hl 1 rfl) ?_
  refine lv_iconst (v := 0) hx hb dX8_advance_98 (by decide) ?_
  refine fs_RX8_37 hC hw 0 rfl rfl rfl (Nat.le_of_ble_eq_true rfl) dX8_advance_99 (fun H locs hw => ?_)
  have hw : kW γ A [(h, .inr (8, [.ref hg, .int 0, .int 0, .int 0, .int 0, .int t5, .long t6, .ref γ.2.2.2]))] s H locs := hw
  refine lv_goto (tgt := 239) hx hb dX8_advance_102 (by decide) ?_
  exact k_vret hC hr hlocks hw [0] rfl rfl ⟨rfl, rfl⟩ (by decide) (by decide) dX8_advance_239

set_option maxHeartbeats 4000000 in
set_option maxRecDepth 100000 in
theorem c_X8_begin (γ : kΓ) (l : Launch) (h : Nat) (hg : Nat) (t2 : Int32) (t3 : Int32) (t4 : Int32) (t5 : Int32) (t6 : Int64) (t7 : Nat) : kM γ l yX8_begin cX8_begin 1 none ({ frames := 1, cells := 0, slots := 0, locals := 21 } : Room) [.ref h] [(h, .inr (8, [.ref hg, .int 0, .int t2, .int t3, .int t4, .int t5, .long t6, .ref t7]))] (fun r w1 => r = none ∧ w1 = [(h, .inr (8, [.ref hg, .int 0, .int 0, .int 0, .int 0, .int t5, .long t6, .ref γ.2.2.2]))]) := by
  refine k_ofW (by decide) (Nat.le_of_ble_eq_true rfl) ?_
  intro p e s m below meth c A ls hC hr hlocks hname hw hl
  have hx := hC.1
  have hb := hC.2.1
  have hl : lv_has ls 1 [(0, .ref h)] := hl
  refine lv_aload_n hx hb dX8_begin_0 rfl (lv_at hl 0 rfl) ?_
  refine lv_iconst (v := 0) hx hb dX8_begin_1 (by decide) ?_
  refine fs_RX8_28 hC hw 0 rfl rfl rfl (Nat.le_of_ble_eq_true rfl) dX8_begin_2 (fun H locs hw => ?_)
  have hw : kW γ A [(h, .inr (8, [.ref hg, .int 0, .int t2, .int 0, .int t4, .int t5, .long t6, .ref t7]))] s H locs := hw
  refine lv_aload_n hx hb dX8_begin_5 rfl (lv_at hl 0 rfl) ?_
  refine k_V (wr := []) 0 gw_460 gw_461 gw_462 gw_2 gw_463 hd_X8_advance hC hw (c_X8_advance γ l h hg t2 t4 t5 t6 t7) ⟨by decide, by decide⟩ ⟨by decide, by decide⟩ hl.1 rfl 0 rfl rfl rfl (Nat.le_of_ble_eq_true rfl) [0] [] rfl rfl rfl rfl (by decide) dX8_begin_6 (fun r w1 H locs hq hw => ?_)
  obtain ⟨rfl, rfl⟩ := hq
  have hw : kW γ A [(h, .inr (8, [.ref hg, .int 0, .int 0, .int 0, .int 0, .int t5, .long t6, .ref γ.2.2.2]))] s H locs := hw
  refine W.eq (g2 := F0 m 9 ls []) rfl ?_
  exact k_vret hC hr hlocks hw [0] rfl rfl ⟨rfl, rfl⟩ (by decide) (by decide) dX8_begin_9

set_option maxHeartbeats 4000000 in
set_option maxRecDepth 100000 in
theorem c_X5_init (γ : kΓ) (l : Launch) (h : Nat) (t : Nat) (b : Nat) : kM γ l yX5_init cX5_init 3 none ({ frames := 1, cells := 1, slots := 40, locals := 24 } : Room) [.ref h, .ref t, .ref b] [(h, .inr (5, [.null, .null, .null, .int 0, .int 0]))] (fun r w1 => ∃ (hn : Nat), ∃ (fn : Nat → Int32), r = none ∧ w1 = [(h, .inr (5, [.ref t, .ref hn, .ref b, .int 0, .int 0])), (hn, .inl (γ.2.1 0, 40, .inl fn))]) := by
  refine k_ofW (by decide) (Nat.le_of_ble_eq_true rfl) ?_
  intro p e s m below meth c A ls hC hr hlocks hname hw hl
  have hx := hC.1
  have hb := hC.2.1
  have hin : meth.name = "<init>" := hname
  have hl : lv_has ls 3 [(0, .ref h), (1, .ref t), (2, .ref b)] := hl
  refine lv_aload_n hx hb dX5_init_0 rfl (lv_at hl 0 rfl) ?_
  refine k_objInit hC gw_384 hl.1 (by decide) (Nat.le_of_ble_eq_true rfl) dX5_init_1 ?_
  refine W.eq (g2 := F0 m 4 ls []) rfl ?_
  refine lv_aload_n hx hb dX5_init_4 rfl (lv_at hl 0 rfl) ?_
  refine lv_bipush (v := 40) hx hb dX5_init_5 (by decide) ?_
  refine k_newa (atype := .int) (N' := 40) (a0 := (40, .inl (fun _ => 0))) hC hw rfl gw_132 0 rfl (fun _ h => by cases h) (fun _ => rfl) (by decide) (by decide) (by decide) (by decide) (by decide) dX5_init_7 (fun q_590 H hw => ?_)
  have hw : kW γ A [(h, .inr (5, [.null, .null, .null, .int 0, .int 0])), (q_590, .inl (γ.2.1 0, 40, .inl (fun _ => 0)))] s H [] := hw
  refine W.widen (k := 1) (n := 40) (by decide) (by decide) ?_
  refine fs_RX5_9 hC hw hin 0 rfl rfl rfl (Nat.le_of_ble_eq_true rfl) dX5_init_9 (fun H locs hw => ?_)
  have hw : kW γ A [(h, .inr (5, [.null, .ref q_590, .null, .int 0, .int 0])), (q_590, .inl (γ.2.1 0, 40, .inl (fun _ => 0)))] s H locs := hw
  refine lv_aload_n hx hb dX5_init_12 rfl (lv_at hl 0 rfl) ?_
  refine lv_aload_n hx hb dX5_init_13 rfl (lv_at hl 1 rfl) ?_
  refine fs_RX5_15 hC hw hin 0 rfl rfl rfl (Nat.le_of_ble_eq_true rfl) dX5_init_14 (fun H locs hw => ?_)
  have hw : kW γ A [(h, .inr (5, [.ref t, .ref q_590, .null, .int 0, .int 0])), (q_590, .inl (γ.2.1 0, 40, .inl (fun _ => 0)))] s H locs := hw
  refine lv_aload_n hx hb dX5_init_17 rfl (lv_at hl 0 rfl) ?_
  refine lv_aload_n hx hb dX5_init_18 rfl (lv_at hl 2 rfl) ?_
  refine fs_RX5_19 hC hw 0 rfl rfl rfl (Nat.le_of_ble_eq_true rfl) dX5_init_19 (fun H locs hw => ?_)
  have hw : kW γ A [(h, .inr (5, [.ref t, .ref q_590, .ref b, .int 0, .int 0])), (q_590, .inl (γ.2.1 0, 40, .inl (fun _ => 0)))] s H locs := hw
  exact k_vret hC hr hlocks hw [0, 1] rfl rfl ⟨q_590, (fun _ => 0), rfl, rfl⟩ (by decide) (by decide) dX5_init_22


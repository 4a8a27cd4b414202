theorem dX11_match_0 : decode cX11_match 0 = .ok (.iload_n 1, 1) := by decide +kernel
theorem dX11_match_1 : decode cX11_match 1 = .ok (.iconst (-1), 1) := by decide +kernel
theorem dX11_match_2 : decode cX11_match 2 = .ok (.if_icmp .eq 14, 3) := by decide +kernel
theorem dX11_match_5 : decode cX11_match 5 = .ok (.aload_n 0, 1) := by decide +kernel
theorem dX11_match_6 : decode cX11_match 6 = .ok (.iload_n 1, 1) := by decide +kernel
theorem dX11_match_7 : decode cX11_match 7 = .ok (.invokevirtual 114, 3) := by decide +kernel
theorem dX11_match_10 : decode cX11_match 10 = .ok (.ifCond .ne 6, 3) := by decide +kernel
theorem dX11_match_13 : decode cX11_match 13 = .ok (.bipush (-2), 2) := by decide +kernel
theorem dX11_match_15 : decode cX11_match 15 = .ok (.ireturn, 1) := by decide +kernel
theorem dX11_match_16 : decode cX11_match 16 = .ok (.aload_n 0, 1) := by decide +kernel
theorem dX11_match_17 : decode cX11_match 17 = .ok (.getfield 58, 3) := by decide +kernel
theorem dX11_match_20 : decode cX11_match 20 = .ok (.aload_n 0, 1) := by decide +kernel
theorem dX11_match_21 : decode cX11_match 21 = .ok (.getfield 65, 3) := by decide +kernel
theorem dX11_match_24 : decode cX11_match 24 = .ok (.aload_n 0, 1) := by decide +kernel
theorem dX11_match_25 : decode cX11_match 25 = .ok (.getfield 26, 3) := by decide +kernel
theorem dX11_match_28 : decode cX11_match 28 = .ok (.getfield 131, 3) := by decide +kernel
theorem dX11_match_31 : decode cX11_match 31 = .ok (.invokevirtual 304, 3) := by decide +kernel
theorem dX11_match_34 : decode cX11_match 34 = .ok (.iload_n 1, 1) := by decide +kernel
theorem dX11_match_35 : decode cX11_match 35 = .ok (.iconst (-1), 1) := by decide +kernel
theorem dX11_match_36 : decode cX11_match 36 = .ok (.if_icmp .ne 13, 3) := by decide +kernel
theorem dX11_match_39 : decode cX11_match 39 = .ok (.aload_n 0, 1) := by decide +kernel
theorem dX11_match_40 : decode cX11_match 40 = .ok (.getfield 58, 3) := by decide +kernel
theorem dX11_match_43 : decode cX11_match 43 = .ok (.getfield 307, 3) := by decide +kernel
theorem dX11_match_46 : decode cX11_match 46 = .ok (.goto 12, 3) := by decide +kernel
theorem dX11_match_49 : decode cX11_match 49 = .ok (.aload_n 0, 1) := by decide +kernel
theorem dX11_match_50 : decode cX11_match 50 = .ok (.getfield 58, 3) := by decide +kernel
theorem dX11_match_53 : decode cX11_match 53 = .ok (.getfield 310, 3) := by decide +kernel
theorem dX11_match_56 : decode cX11_match 56 = .ok (.iload_n 1, 1) := by decide +kernel
theorem dX11_match_57 : decode cX11_match 57 = .ok (.iaload, 1) := by decide +kernel
theorem dX11_match_58 : decode cX11_match 58 = .ok (.ireturn, 1) := by decide +kernel
theorem dX2_liveYears_0 : decode cX2_liveYears 0 = .ok (.aload_n 0, 1) := by decide +kernel
theorem dX2_liveYears_1 : decode cX2_liveYears 1 = .ok (.getfield 12, 3) := by decide +kernel
theorem dX2_liveYears_4 : decode cX2_liveYears 4 = .ok (.invokevirtual 18, 3) := by decide +kernel
theorem dX2_liveYears_7 : decode cX2_liveYears 7 = .ok (.aload_n 0, 1) := by decide +kernel
theorem dX2_liveYears_8 : decode cX2_liveYears 8 = .ok (.iconst 0, 1) := by decide +kernel
theorem dX2_liveYears_9 : decode cX2_liveYears 9 = .ok (.putfield 21, 3) := by decide +kernel
theorem dX2_liveYears_12 : decode cX2_liveYears 12 = .ok (.aload_n 0, 1) := by decide +kernel
theorem dX2_liveYears_13 : decode cX2_liveYears 13 = .ok (.iconst (-1), 1) := by decide +kernel
theorem dX2_liveYears_14 : decode cX2_liveYears 14 = .ok (.putfield 25, 3) := by decide +kernel
theorem dX2_liveYears_17 : decode cX2_liveYears 17 = .ok (.aload_n 0, 1) := by decide +kernel
theorem dX2_liveYears_18 : decode cX2_liveYears 18 = .ok (.iconst (-1), 1) := by decide +kernel
theorem dX2_liveYears_19 : decode cX2_liveYears 19 = .ok (.putfield 28, 3) := by decide +kernel
theorem dX2_liveYears_22 : decode cX2_liveYears 22 = .ok (.iconst 0, 1) := by decide +kernel
theorem dX2_liveYears_23 : decode cX2_liveYears 23 = .ok (.istore 4, 2) := by decide +kernel
theorem dX2_liveYears_25 : decode cX2_liveYears 25 = .ok (.iload 4, 2) := by decide +kernel
theorem dX2_liveYears_27 : decode cX2_liveYears 27 = .ok (.aload_n 2, 1) := by decide +kernel
theorem dX2_liveYears_28 : decode cX2_liveYears 28 = .ok (.getfield 31, 3) := by decide +kernel
theorem dX2_liveYears_31 : decode cX2_liveYears 31 = .ok (.if_icmp .ge 101, 3) := by decide +kernel
theorem dX2_liveYears_34 : decode cX2_liveYears 34 = .ok (.aload_n 0, 1) := by decide +kernel
theorem dX2_liveYears_35 : decode cX2_liveYears 35 = .ok (.getfield 21, 3) := by decide +kernel
theorem dX2_liveYears_38 : decode cX2_liveYears 38 = .ok (.istore 5, 2) := by decide +kernel
theorem dX2_liveYears_40 : decode cX2_liveYears 40 = .ok (.aload_n 0, 1) := by decide +kernel
theorem dX2_liveYears_41 : decode cX2_liveYears 41 = .ok (.getfield 12, 3) := by decide +kernel
theorem dX2_liveYears_44 : decode cX2_liveYears 44 = .ok (.getfield 36, 3) := by decide +kernel
theorem dX2_liveYears_47 : decode cX2_liveYears 47 = .ok (.istore 6, 2) := by decide +kernel
theorem dX2_liveYears_49 : decode cX2_liveYears 49 = .ok (.aload_n 0, 1) := by decide +kernel
theorem dX2_liveYears_50 : decode cX2_liveYears 50 = .ok (.aload_n 1, 1) := by decide +kernel
theorem dX2_liveYears_51 : decode cX2_liveYears 51 = .ok (.aload_n 2, 1) := by decide +kernel
theorem dX2_liveYears_52 : decode cX2_liveYears 52 = .ok (.getfield 39, 3) := by decide +kernel
theorem dX2_liveYears_55 : decode cX2_liveYears 55 = .ok (.iload 4, 2) := by decide +kernel
theorem dX2_liveYears_57 : decode cX2_liveYears 57 = .ok (.iaload, 1) := by decide +kernel
theorem dX2_liveYears_58 : decode cX2_liveYears 58 = .ok (.iload_n 3, 1) := by decide +kernel
theorem dX2_liveYears_59 : decode cX2_liveYears 59 = .ok (.invokevirtual 43, 3) := by decide +kernel
theorem dX2_liveYears_62 : decode cX2_liveYears 62 = .ok (.ifCond .ne 17, 3) := by decide +kernel
theorem dX2_liveYears_65 : decode cX2_liveYears 65 = .ok (.aload_n 0, 1) := by decide +kernel
theorem dX2_liveYears_66 : decode cX2_liveYears 66 = .ok (.getfield 25, 3) := by decide +kernel
theorem dX2_liveYears_69 : decode cX2_liveYears 69 = .ok (.iconst (-1), 1) := by decide +kernel
theorem dX2_liveYears_70 : decode cX2_liveYears 70 = .ok (.if_icmp .ne 9, 3) := by decide +kernel
theorem dX2_liveYears_73 : decode cX2_liveYears 73 = .ok (.aload_n 0, 1) := by decide +kernel
theorem dX2_liveYears_74 : decode cX2_liveYears 74 = .ok (.iload 4, 2) := by decide +kernel
theorem dX2_liveYears_76 : decode cX2_liveYears 76 = .ok (.putfield 25, 3) := by decide +kernel
theorem dX2_liveYears_79 : decode cX2_liveYears 79 = .ok (.aload_n 0, 1) := by decide +kernel
theorem dX2_liveYears_80 : decode cX2_liveYears 80 = .ok (.getfield 21, 3) := by decide +kernel
theorem dX2_liveYears_83 : decode cX2_liveYears 83 = .ok (.iload 5, 2) := by decide +kernel
theorem dX2_liveYears_85 : decode cX2_liveYears 85 = .ok (.if_icmp .ne 15, 3) := by decide +kernel
theorem dX2_liveYears_88 : decode cX2_liveYears 88 = .ok (.aload_n 0, 1) := by decide +kernel
theorem dX2_liveYears_89 : decode cX2_liveYears 89 = .ok (.getfield 12, 3) := by decide +kernel
theorem dX2_liveYears_92 : decode cX2_liveYears 92 = .ok (.getfield 36, 3) := by decide +kernel
theorem dX2_liveYears_95 : decode cX2_liveYears 95 = .ok (.iload 6, 2) := by decide +kernel
theorem dX2_liveYears_97 : decode cX2_liveYears 97 = .ok (.if_icmp .eq 7, 3) := by decide +kernel
theorem dX2_liveYears_100 : decode cX2_liveYears 100 = .ok (.iconst 1, 1) := by decide +kernel
theorem dX2_liveYears_101 : decode cX2_liveYears 101 = .ok (.goto 4, 3) := by decide +kernel
theorem dX2_liveYears_104 : decode cX2_liveYears 104 = .ok (.iconst 0, 1) := by decide +kernel
theorem dX2_liveYears_105 : decode cX2_liveYears 105 = .ok (.istore 7, 2) := by decide +kernel
theorem dX2_liveYears_107 : decode cX2_liveYears 107 = .ok (.iload 7, 2) := by decide +kernel
theorem dX2_liveYears_109 : decode cX2_liveYears 109 = .ok (.ifCond .eq 17, 3) := by decide +kernel
theorem dX2_liveYears_112 : decode cX2_liveYears 112 = .ok (.aload_n 0, 1) := by decide +kernel
theorem dX2_liveYears_113 : decode cX2_liveYears 113 = .ok (.getfield 28, 3) := by decide +kernel
theorem dX2_liveYears_116 : decode cX2_liveYears 116 = .ok (.iconst (-1), 1) := by decide +kernel
theorem dX2_liveYears_117 : decode cX2_liveYears 117 = .ok (.if_icmp .ne 9, 3) := by decide +kernel
theorem dX2_liveYears_120 : decode cX2_liveYears 120 = .ok (.aload_n 0, 1) := by decide +kernel
theorem dX2_liveYears_121 : decode cX2_liveYears 121 = .ok (.iload 4, 2) := by decide +kernel
theorem dX2_liveYears_123 : decode cX2_liveYears 123 = .ok (.putfield 28, 3) := by decide +kernel
theorem dX2_liveYears_126 : decode cX2_liveYears 126 = .ok (.iinc 4 1, 3) := by decide +kernel
theorem dX2_liveYears_129 : decode cX2_liveYears 129 = .ok (.goto (-104), 3) := by decide +kernel
theorem dX2_liveYears_132 : decode cX2_liveYears 132 = .ok (.return_, 1) := by decide +kernel
theorem dX2_liveByDraws_0 : decode cX2_liveByDraws 0 = .ok (.aload_n 0, 1) := by decide +kernel
theorem dX2_liveByDraws_1 : decode cX2_liveByDraws 1 = .ok (.getfield 12, 3) := by decide +kernel
theorem dX2_liveByDraws_4 : decode cX2_liveByDraws 4 = .ok (.aload_n 2, 1) := by decide +kernel
theorem dX2_liveByDraws_5 : decode cX2_liveByDraws 5 = .ok (.invokevirtual 86, 3) := by decide +kernel
theorem dX2_liveByDraws_8 : decode cX2_liveByDraws 8 = .ok (.aload_n 0, 1) := by decide +kernel
theorem dX2_liveByDraws_9 : decode cX2_liveByDraws 9 = .ok (.iconst 0, 1) := by decide +kernel
theorem dX2_liveByDraws_10 : decode cX2_liveByDraws 10 = .ok (.putfield 21, 3) := by decide +kernel
theorem dX2_liveByDraws_13 : decode cX2_liveByDraws 13 = .ok (.aload_n 0, 1) := by decide +kernel
theorem dX2_liveByDraws_14 : decode cX2_liveByDraws 14 = .ok (.iload_n 3, 1) := by decide +kernel
theorem dX2_liveByDraws_15 : decode cX2_liveByDraws 15 = .ok (.i2l, 1) := by decide +kernel
theorem dX2_liveByDraws_16 : decode cX2_liveByDraws 16 = .ok (.putfield 90, 3) := by decide +kernel
theorem dX2_liveByDraws_19 : decode cX2_liveByDraws 19 = .ok (.aload_n 1, 1) := by decide +kernel
theorem dX2_liveByDraws_20 : decode cX2_liveByDraws 20 = .ok (.getfield 47, 3) := by decide +kernel
theorem dX2_liveByDraws_23 : decode cX2_liveByDraws 23 = .ok (.ifCond .eq 10, 3) := by decide +kernel
theorem dX2_liveByDraws_26 : decode cX2_liveByDraws 26 = .ok (.aload_n 1, 1) := by decide +kernel
theorem dX2_liveByDraws_27 : decode cX2_liveByDraws 27 = .ok (.getfield 94, 3) := by decide +kernel
theorem dX2_liveByDraws_30 : decode cX2_liveByDraws 30 = .ok (.ifCond .ne 4, 3) := by decide +kernel
theorem dX2_liveByDraws_33 : decode cX2_liveByDraws 33 = .ok (.return_, 1) := by decide +kernel
theorem dX2_liveByDraws_34 : decode cX2_liveByDraws 34 = .ok (.iconst 0, 1) := by decide +kernel
theorem dX2_liveByDraws_35 : decode cX2_liveByDraws 35 = .ok (.istore 5, 2) := by decide +kernel
theorem dX2_liveByDraws_37 : decode cX2_liveByDraws 37 = .ok (.iload 5, 2) := by decide +kernel
theorem dX2_liveByDraws_39 : decode cX2_liveByDraws 39 = .ok (.iload 4, 2) := by decide +kernel
theorem dX2_liveByDraws_41 : decode cX2_liveByDraws 41 = .ok (.if_icmp .ge 53, 3) := by decide +kernel
theorem dX2_liveByDraws_44 : decode cX2_liveByDraws 44 = .ok (.aload_n 0, 1) := by decide +kernel
theorem dX2_liveByDraws_45 : decode cX2_liveByDraws 45 = .ok (.aload_n 1, 1) := by decide +kernel
theorem dX2_liveByDraws_46 : decode cX2_liveByDraws 46 = .ok (.getfield 47, 3) := by decide +kernel
theorem dX2_liveByDraws_49 : decode cX2_liveByDraws 49 = .ok (.invokevirtual 97, 3) := by decide +kernel
theorem dX2_liveByDraws_52 : decode cX2_liveByDraws 52 = .ok (.istore 6, 2) := by decide +kernel
theorem dX2_liveByDraws_54 : decode cX2_liveByDraws 54 = .ok (.aload_n 0, 1) := by decide +kernel
theorem dX2_liveByDraws_55 : decode cX2_liveByDraws 55 = .ok (.aload_n 1, 1) := by decide +kernel
theorem dX2_liveByDraws_56 : decode cX2_liveByDraws 56 = .ok (.getfield 94, 3) := by decide +kernel
theorem dX2_liveByDraws_59 : decode cX2_liveByDraws 59 = .ok (.invokevirtual 97, 3) := by decide +kernel
theorem dX2_liveByDraws_62 : decode cX2_liveByDraws 62 = .ok (.istore 7, 2) := by decide +kernel
theorem dX2_liveByDraws_64 : decode cX2_liveByDraws 64 = .ok (.aload_n 0, 1) := by decide +kernel
theorem dX2_liveByDraws_65 : decode cX2_liveByDraws 65 = .ok (.aload_n 1, 1) := by decide +kernel
theorem dX2_liveByDraws_66 : decode cX2_liveByDraws 66 = .ok (.iload 6, 2) := by decide +kernel
theorem dX2_liveByDraws_68 : decode cX2_liveByDraws 68 = .ok (.iload 7, 2) := by decide +kernel
theorem dX2_liveByDraws_70 : decode cX2_liveByDraws 70 = .ok (.aload_n 1, 1) := by decide +kernel
theorem dX2_liveByDraws_71 : decode cX2_liveByDraws 71 = .ok (.getfield 101, 3) := by decide +kernel
theorem dX2_liveByDraws_74 : decode cX2_liveByDraws 74 = .ok (.invokevirtual 52, 3) := by decide +kernel
theorem dX2_liveByDraws_77 : decode cX2_liveByDraws 77 = .ok (.ifCond .ne 11, 3) := by decide +kernel
theorem dX2_liveByDraws_80 : decode cX2_liveByDraws 80 = .ok (.aload_n 0, 1) := by decide +kernel
theorem dX2_liveByDraws_81 : decode cX2_liveByDraws 81 = .ok (.aload_n 1, 1) := by decide +kernel
theorem dX2_liveByDraws_82 : decode cX2_liveByDraws 82 = .ok (.iload 6, 2) := by decide +kernel
theorem dX2_liveByDraws_84 : decode cX2_liveByDraws 84 = .ok (.invokevirtual 56, 3) := by decide +kernel
theorem dX2_liveByDraws_87 : decode cX2_liveByDraws 87 = .ok (.pop, 1) := by decide +kernel
theorem dX2_liveByDraws_88 : decode cX2_liveByDraws 88 = .ok (.iinc 5 1, 3) := by decide +kernel
theorem dX2_liveByDraws_91 : decode cX2_liveByDraws 91 = .ok (.goto (-54), 3) := by decide +kernel
theorem dX2_liveByDraws_94 : decode cX2_liveByDraws 94 = .ok (.return_, 1) := by decide +kernel
theorem dX11_other_0 : decode cX11_other 0 = .ok (.iload_n 1, 1) := by decide +kernel
theorem dX11_other_1 : decode cX11_other 1 = .ok (.iconst 2, 1) := by decide +kernel
theorem dX11_other_2 : decode cX11_other 2 = .ok (.if_icmp .lt 9, 3) := by decide +kernel
theorem dX11_other_5 : decode cX11_other 5 = .ok (.iload_n 1, 1) := by decide +kernel
theorem dX11_other_6 : decode cX11_other 6 = .ok (.bipush 12, 2) := by decide +kernel
theorem dX11_other_8 : decode cX11_other 8 = .ok (.if_icmp .le 5, 3) := by decide +kernel
theorem dX11_other_11 : decode cX11_other 11 = .ok (.iconst (-1), 1) := by decide +kernel
theorem dX11_other_12 : decode cX11_other 12 = .ok (.ireturn, 1) := by decide +kernel
theorem dX11_other_13 : decode cX11_other 13 = .ok (.aload_n 0, 1) := by decide +kernel
theorem dX11_other_14 : decode cX11_other 14 = .ok (.getfield 37, 3) := by decide +kernel
theorem dX11_other_17 : decode cX11_other 17 = .ok (.aload_n 0, 1) := by decide +kernel
theorem dX11_other_18 : decode cX11_other 18 = .ok (.getfield 65, 3) := by decide +kernel
theorem dX11_other_21 : decode cX11_other 21 = .ok (.aload_n 0, 1) := by decide +kernel
theorem dX11_other_22 : decode cX11_other 22 = .ok (.getfield 26, 3) := by decide +kernel
theorem dX11_other_25 : decode cX11_other 25 = .ok (.iload_n 1, 1) := by decide +kernel
theorem dX11_other_26 : decode cX11_other 26 = .ok (.invokevirtual 228, 3) := by decide +kernel
theorem dX11_other_29 : decode cX11_other 29 = .ok (.aload_n 0, 1) := by decide +kernel
theorem dX11_other_30 : decode cX11_other 30 = .ok (.getfield 37, 3) := by decide +kernel
theorem dX11_other_33 : decode cX11_other 33 = .ok (.getfield 242, 3) := by decide +kernel
theorem dX11_other_36 : decode cX11_other 36 = .ok (.ireturn, 1) := by decide +kernel
theorem dX11_judged_0 : decode cX11_judged 0 = .ok (.iload_n 1, 1) := by decide +kernel
theorem dX11_judged_1 : decode cX11_judged 1 = .ok (.ifCond .lt 8, 3) := by decide +kernel
theorem dX11_judged_4 : decode cX11_judged 4 = .ok (.iload_n 1, 1) := by decide +kernel
theorem dX11_judged_5 : decode cX11_judged 5 = .ok (.iconst 2, 1) := by decide +kernel
theorem dX11_judged_6 : decode cX11_judged 6 = .ok (.if_icmp .le 11, 3) := by decide +kernel
theorem dX11_judged_9 : decode cX11_judged 9 = .ok (.new 225, 3) := by decide +kernel
theorem dX11_judged_12 : decode cX11_judged 12 = .ok (.dup, 1) := by decide +kernel
theorem dX11_judged_13 : decode cX11_judged 13 = .ok (.invokespecial 227, 3) := by decide +kernel
theorem dX11_judged_16 : decode cX11_judged 16 = .ok (.athrow, 1) := by decide +kernel
theorem dX11_judged_17 : decode cX11_judged 17 = .ok (.aload_n 0, 1) := by decide +kernel
theorem dX11_judged_18 : decode cX11_judged 18 = .ok (.getfield 37, 3) := by decide +kernel
theorem dX11_judged_21 : decode cX11_judged 21 = .ok (.aload_n 0, 1) := by decide +kernel
theorem dX11_judged_22 : decode cX11_judged 22 = .ok (.getfield 65, 3) := by decide +kernel
theorem dX11_judged_25 : decode cX11_judged 25 = .ok (.aload_n 0, 1) := by decide +kernel
theorem dX11_judged_26 : decode cX11_judged 26 = .ok (.getfield 26, 3) := by decide +kernel
theorem dX11_judged_29 : decode cX11_judged 29 = .ok (.aload_n 0, 1) := by decide +kernel
theorem dX11_judged_30 : decode cX11_judged 30 = .ok (.getfield 65, 3) := by decide +kernel
theorem dX11_judged_33 : decode cX11_judged 33 = .ok (.getfield 167, 3) := by decide +kernel
theorem dX11_judged_36 : decode cX11_judged 36 = .ok (.invokevirtual 228, 3) := by decide +kernel
theorem dX11_judged_39 : decode cX11_judged 39 = .ok (.iload_n 1, 1) := by decide +kernel
theorem dX11_judged_40 : decode cX11_judged 40 = .ok (.lookupswitch 44 #[(0, 28), (1, 36)], 28) := by decide +kernel
theorem dX11_judged_68 : decode cX11_judged 68 = .ok (.aload_n 0, 1) := by decide +kernel
theorem dX11_judged_69 : decode cX11_judged 69 = .ok (.getfield 37, 3) := by decide +kernel
theorem dX11_judged_72 : decode cX11_judged 72 = .ok (.getfield 232, 3) := by decide +kernel
theorem dX11_judged_75 : decode cX11_judged 75 = .ok (.ireturn, 1) := by decide +kernel
theorem dX11_judged_76 : decode cX11_judged 76 = .ok (.aload_n 0, 1) := by decide +kernel
theorem dX11_judged_77 : decode cX11_judged 77 = .ok (.getfield 37, 3) := by decide +kernel
theorem dX11_judged_80 : decode cX11_judged 80 = .ok (.getfield 235, 3) := by decide +kernel
theorem dX11_judged_83 : decode cX11_judged 83 = .ok (.ireturn, 1) := by decide +kernel
theorem dX11_judged_84 : decode cX11_judged 84 = .ok (.aload_n 0, 1) := by decide +kernel
theorem dX11_judged_85 : decode cX11_judged 85 = .ok (.getfield 37, 3) := by decide +kernel
theorem dX11_judged_88 : decode cX11_judged 88 = .ok (.getfield 238, 3) := by decide +kernel
theorem dX11_judged_91 : decode cX11_judged 91 = .ok (.invokevirtual 239, 3) := by decide +kernel
theorem dX11_judged_94 : decode cX11_judged 94 = .ok (.ireturn, 1) := by decide +kernel
theorem dX11_lives_0 : decode cX11_lives 0 = .ok (.iload_n 1, 1) := by decide +kernel
theorem dX11_lives_1 : decode cX11_lives 1 = .ok (.ifCond .lt 30, 3) := by decide +kernel
theorem dX11_lives_4 : decode cX11_lives 4 = .ok (.iload_n 1, 1) := by decide +kernel
theorem dX11_lives_5 : decode cX11_lives 5 = .ok (.sipush 9999, 3) := by decide +kernel
theorem dX11_lives_8 : decode cX11_lives 8 = .ok (.if_icmp .gt 23, 3) := by decide +kernel
theorem dX11_lives_11 : decode cX11_lives 11 = .ok (.iload_n 2, 1) := by decide +kernel
theorem dX11_lives_12 : decode cX11_lives 12 = .ok (.iconst 1, 1) := by decide +kernel
theorem dX11_lives_13 : decode cX11_lives 13 = .ok (.if_icmp .lt 18, 3) := by decide +kernel
theorem dX11_lives_16 : decode cX11_lives 16 = .ok (.iload_n 2, 1) := by decide +kernel
theorem dX11_lives_17 : decode cX11_lives 17 = .ok (.bipush 99, 2) := by decide +kernel
theorem dX11_lives_19 : decode cX11_lives 19 = .ok (.if_icmp .gt 12, 3) := by decide +kernel
theorem dX11_lives_22 : decode cX11_lives 22 = .ok (.iload_n 3, 1) := by decide +kernel
theorem dX11_lives_23 : decode cX11_lives 23 = .ok (.ifCond .lt 8, 3) := by decide +kernel
theorem dX11_lives_26 : decode cX11_lives 26 = .ok (.iload_n 3, 1) := by decide +kernel
theorem dX11_lives_27 : decode cX11_lives 27 = .ok (.iconst 2, 1) := by decide +kernel
theorem dX11_lives_28 : decode cX11_lives 28 = .ok (.if_icmp .le 11, 3) := by decide +kernel
theorem dX11_lives_31 : decode cX11_lives 31 = .ok (.new 225, 3) := by decide +kernel
theorem dX11_lives_34 : decode cX11_lives 34 = .ok (.dup, 1) := by decide +kernel
theorem dX11_lives_35 : decode cX11_lives 35 = .ok (.invokespecial 227, 3) := by decide +kernel
theorem dX11_lives_38 : decode cX11_lives 38 = .ok (.athrow, 1) := by decide +kernel
theorem dX11_lives_39 : decode cX11_lives 39 = .ok (.aload_n 0, 1) := by decide +kernel
theorem dX11_lives_40 : decode cX11_lives 40 = .ok (.getfield 37, 3) := by decide +kernel
theorem dX11_lives_43 : decode cX11_lives 43 = .ok (.aload_n 0, 1) := by decide +kernel
theorem dX11_lives_44 : decode cX11_lives 44 = .ok (.getfield 65, 3) := by decide +kernel
theorem dX11_lives_47 : decode cX11_lives 47 = .ok (.aload_n 0, 1) := by decide +kernel
theorem dX11_lives_48 : decode cX11_lives 48 = .ok (.getfield 26, 3) := by decide +kernel
theorem dX11_lives_51 : decode cX11_lives 51 = .ok (.getfield 131, 3) := by decide +kernel
theorem dX11_lives_54 : decode cX11_lives 54 = .ok (.iload_n 1, 1) := by decide +kernel
theorem dX11_lives_55 : decode cX11_lives 55 = .ok (.iload_n 2, 1) := by decide +kernel
theorem dX11_lives_56 : decode cX11_lives 56 = .ok (.invokevirtual 245, 3) := by decide +kernel
theorem dX11_lives_59 : decode cX11_lives 59 = .ok (.iload_n 3, 1) := by decide +kernel
theorem dX11_lives_60 : decode cX11_lives 60 = .ok (.lookupswitch 47 #[(0, 28), (1, 36)], 28) := by decide +kernel
theorem dX11_lives_88 : decode cX11_lives 88 = .ok (.aload_n 0, 1) := by decide +kernel
theorem dX11_lives_89 : decode cX11_lives 89 = .ok (.getfield 37, 3) := by decide +kernel
theorem dX11_lives_92 : decode cX11_lives 92 = .ok (.getfield 242, 3) := by decide +kernel
theorem dX11_lives_95 : decode cX11_lives 95 = .ok (.ireturn, 1) := by decide +kernel
theorem dX11_lives_96 : decode cX11_lives 96 = .ok (.aload_n 0, 1) := by decide +kernel
theorem dX11_lives_97 : decode cX11_lives 97 = .ok (.getfield 37, 3) := by decide +kernel
theorem dX11_lives_100 : decode cX11_lives 100 = .ok (.getfield 238, 3) := by decide +kernel
theorem dX11_lives_103 : decode cX11_lives 103 = .ok (.getfield 176, 3) := by decide +kernel
theorem dX11_lives_106 : decode cX11_lives 106 = .ok (.ireturn, 1) := by decide +kernel
theorem dX11_lives_107 : decode cX11_lives 107 = .ok (.aload_n 0, 1) := by decide +kernel
theorem dX11_lives_108 : decode cX11_lives 108 = .ok (.getfield 37, 3) := by decide +kernel
theorem dX11_lives_111 : decode cX11_lives 111 = .ok (.getfield 238, 3) := by decide +kernel
theorem dX11_lives_114 : decode cX11_lives 114 = .ok (.invokevirtual 239, 3) := by decide +kernel
theorem dX11_lives_117 : decode cX11_lives 117 = .ok (.aload_n 0, 1) := by decide +kernel
theorem dX11_lives_118 : decode cX11_lives 118 = .ok (.getfield 26, 3) := by decide +kernel
theorem dX11_lives_121 : decode cX11_lives 121 = .ok (.getfield 131, 3) := by decide +kernel
theorem dX11_lives_124 : decode cX11_lives 124 = .ok (.invokevirtual 239, 3) := by decide +kernel
theorem dX11_lives_127 : decode cX11_lives 127 = .ok (.isub, 1) := by decide +kernel
theorem dX11_lives_128 : decode cX11_lives 128 = .ok (.ireturn, 1) := by decide +kernel
set_option maxHeartbeats 4000000 in
set_option maxRecDepth 100000 in
theorem c_X11_match_n (γ : kΓ) (l : Launch) (x : Nat) (x0 : Nat) (x1 : Nat) (x2 : Nat) (x3 : Nat) (x4 : Nat) (x5 : Nat) (x6 : Nat) (x7 : Nat) (x8 : Nat) (x9 : Nat) (x10 : Nat) (x90 : Nat) (x91 : Nat) (x92 : Nat) (x93 : Nat) (x94 : Nat) (x95 : Nat) (x96 : Nat) (x97 : Nat) (pc : Nat) (pt : Nat) (pd : Nat) (fc : Nat → Int32) (ft : Nat → Int32) (x2s : Nat) (x2y : Nat) (x2q : Nat) : kM γ l yX11_match cX11_match 2 ((some .int)) ({ frames := 3, cells := 0, slots := 0, locals := 127 } : Room) [.ref x, .int (-1)] [(x, .inr (10, [.ref x0, .ref x1, .ref x2, .ref x3, .ref x4, .ref x5, .ref x6, .ref x7, .ref x8, .ref x9, .ref x10])), (x9, .inr (0, [.ref x90, .ref x91, .ref x92, .ref x93, .ref x94, .ref x95, .ref x96, .ref x97, .int 0, .int 0, .int 10, .int 10, .int 3, .int 0, .int 0, .int 0, .int 0, .int 0, .int 0])), (x7, .inr (4, [.ref pc, .ref pt, .ref pd, .int 0, .int 0])), (pc, .inl (γ.2.1 0, 5, .inl fc)), (pt, .inl (γ.2.1 0, 5, .inl ft)), (x2, .inr (3, [.ref x2s, .ref x2y, .ref x2q, .int 0, .int 0, .int 0]))] (fun r w1 => r = some (.int 0) ∧ w1 = []) := by
  refine k_ofW (by decide) (Nat.le_of_ble_eq_true rfl) ?_
  intro p e s m below meth c A ls hC hr hlocks hname hw hl
  have hx := hC.1
  have hb := hC.2.1
  have hl : lv_has ls 2 [(0, .ref x), (1, .int (-1))] := hl
  refine lv_iload_n hx hb dX11_match_0 rfl (lv_at hl 1 rfl) ?_
  refine lv_iconst (v := (-1)) hx hb dX11_match_1 (by decide) ?_
  refine lv_icmp_eq (tgt := 16) hx hb dX11_match_2 (by decide) (fun _ => ?_) (fun h => absurd (by decide) h)
  refine lv_aload_n hx hb dX11_match_16 rfl (lv_at hl 0 rfl) ?_
  refine fg_RX11_58 hC hw 0 rfl rfl dX11_match_17 ?_
  refine lv_aload_n hx hb dX11_match_20 rfl (lv_at hl 0 rfl) ?_
  refine fg_RX11_65 hC hw 0 rfl rfl dX11_match_21 ?_
  refine lv_aload_n hx hb dX11_match_24 rfl (lv_at hl 0 rfl) ?_
  refine fg_RX11_26 hC hw 0 rfl rfl dX11_match_25 ?_
  refine fg_RX11_131 hC hw 5 rfl rfl dX11_match_28 ?_
  refine k_V (wr := [(x, .inr (10, [.ref x0, .ref x1, .ref x2, .ref x3, .ref x4, .ref x5, .ref x6, .ref x7, .ref x8, .ref x9, .ref x10])), (x2, .inr (3, [.ref x2s, .ref x2y, .ref x2q, .int 0, .int 0, .int 0]))]) 2 gw_987 gw_988 gw_989 gw_12 gw_990 hd_X4_find hC hw (c_X4_find γ l x7 pc pt pd fc ft x9 x90 x91 x92 x93 x94 x95 x96 x97 x2s) ⟨by decide, by decide⟩ ⟨by decide, by decide⟩ hl.1 rfl 2 rfl rfl rfl (Nat.le_of_ble_eq_true rfl) [2, 3, 4, 1] [0, 5] rfl rfl rfl rfl (by decide) dX11_match_31 (fun r w1 H locs hq hw => ?_)
  obtain ⟨gc_617, rfl, rfl⟩ := hq
  have hw : kW γ A [(x, .inr (10, [.ref x0, .ref x1, .ref x2, .ref x3, .ref x4, .ref x5, .ref x6, .ref x7, .ref x8, .ref x9, .ref x10])), (x2, .inr (3, [.ref x2s, .ref x2y, .ref x2q, .int 0, .int 0, .int 0])), (x7, .inr (4, [.ref pc, .ref pt, .ref pd, .int 0, .int 0])), (pc, .inl (γ.2.1 0, 5, .inl gc_617)), (pt, .inl (γ.2.1 0, 5, .inl ft))] s H locs := hw
  refine W.eq (g2 := F0 m 34 ls []) rfl ?_
  refine lv_iload_n hx hb dX11_match_34 rfl (lv_at hl 1 rfl) ?_
  refine lv_iconst (v := (-1)) hx hb dX11_match_35 (by decide) ?_
  refine lv_icmp_ne (tgt := 49) hx hb dX11_match_36 (by decide) (fun h => absurd rfl h) (fun _ => ?_)
  refine lv_aload_n hx hb dX11_match_39 rfl (lv_at hl 0 rfl) ?_
  refine fg_RX11_58 hC hw 0 rfl rfl dX11_match_40 ?_
  refine fg_RX11_307 hC hw 2 rfl rfl dX11_match_43 ?_
  refine lv_goto (tgt := 58) hx hb dX11_match_46 (by decide) ?_
  exact k_iret hC hr hlocks hw [] rfl rfl ⟨rfl, rfl⟩ (by decide) (by decide) dX11_match_58

set_option maxHeartbeats 4000000 in
set_option maxRecDepth 100000 in
theorem c_X11_match_o (γ : kΓ) (l : Launch) (x : Nat) (x0 : Nat) (x1 : Nat) (x2 : Nat) (x3 : Nat) (x4 : Nat) (x5 : Nat) (x6 : Nat) (x7 : Nat) (x8 : Nat) (x9 : Nat) (x10 : Nat) (x90 : Nat) (x91 : Nat) (x92 : Nat) (x93 : Nat) (x94 : Nat) (x95 : Nat) (x96 : Nat) (x97 : Nat) (t : Int32) (ht : ¬ t = -1) : kM γ l yX11_match cX11_match 2 ((some .int)) ({ frames := 1, cells := 0, slots := 0, locals := 21 } : Room) [.ref x, .int t] [(x, .inr (10, [.ref x0, .ref x1, .ref x2, .ref x3, .ref x4, .ref x5, .ref x6, .ref x7, .ref x8, .ref x9, .ref x10])), (x9, .inr (0, [.ref x90, .ref x91, .ref x92, .ref x93, .ref x94, .ref x95, .ref x96, .ref x97, .int 0, .int 0, .int 10, .int 10, .int 3, .int 0, .int 0, .int 0, .int 0, .int 0, .int 0]))] (fun r w1 => r = some (.int (-2)) ∧ w1 = []) := by
  refine k_ofW (by decide) (Nat.le_of_ble_eq_true rfl) ?_
  intro p e s m below meth c A ls hC hr hlocks hname hw hl
  have hx := hC.1
  have hb := hC.2.1
  have hl : lv_has ls 2 [(0, .ref x), (1, .int t)] := hl
  refine lv_iload_n hx hb dX11_match_0 rfl (lv_at hl 1 rfl) ?_
  refine lv_iconst (v := (-1)) hx hb dX11_match_1 (by decide) ?_
  refine lv_icmp_eq (tgt := 16) hx hb dX11_match_2 (by decide) (fun h => absurd h ht) (fun _ => ?_)
  refine lv_aload_n hx hb dX11_match_5 rfl (lv_at hl 0 rfl) ?_
  refine lv_iload_n hx hb dX11_match_6 rfl (lv_at hl 1 rfl) ?_
  refine k_V (wr := []) 1 gw_705 gw_707 gp_25 gw_1 gw_708 hd_X11_isTenant hC hw (c_X11_isTenant γ l x x0 x1 x2 x3 x4 x5 x6 x7 x8 x9 x10 x90 x91 x92 x93 x94 x95 x96 x97 t) ⟨by decide, by decide⟩ ⟨by decide, by decide⟩ hl.1 rfl 0 rfl rfl rfl (Nat.le_of_ble_eq_true rfl) [0, 1] [] rfl rfl rfl rfl (by decide) dX11_match_7 (fun r w1 H locs hq hw => ?_)
  obtain ⟨rfl, rfl⟩ := hq
  have hw : kW γ A [(x, .inr (10, [.ref x0, .ref x1, .ref x2, .ref x3, .ref x4, .ref x5, .ref x6, .ref x7, .ref x8, .ref x9, .ref x10])), (x9, .inr (0, [.ref x90, .ref x91, .ref x92, .ref x93, .ref x94, .ref x95, .ref x96, .ref x97, .int 0, .int 0, .int 10, .int 10, .int 3, .int 0, .int 0, .int 0, .int 0, .int 0, .int 0]))] s H locs := hw
  refine W.eq (g2 := F0 m 10 ls [.int 0]) rfl ?_
  refine lv_if_ne (tgt := 16) hx hb dX11_match_10 (by decide) (fun h => absurd rfl h) (fun _ => ?_)
  refine lv_bipush (v := (-2)) hx hb dX11_match_13 (by decide) ?_
  exact k_iret hC hr hlocks hw [] rfl rfl ⟨rfl, rfl⟩ (by decide) (by decide) dX11_match_15

set_option maxHeartbeats 4000000 in
set_option maxRecDepth 100000 in
theorem c_X2_liveYears (γ : kΓ) (l : Launch) (h : Nat) (hs : Nat) (hs_l : Nat) (hs_c : Nat) (hs_g : Nat) (hs_r : Nat) (hs_k : Nat) (hs_b : Nat) (fhs_l : Nat → Int32) (fhs_c : Nat → Int32) (fhs_g : Nat → Int32) (fhs_r : Nat → Int64) (fhs_k : Nat → Int32) (fhs_b : Nat → Int32) (w1x : Int32) (w2x : Int32) (w3x : Int32) (w4x : Int64) (y6 : Int32) (y7 : Int32) (y8 : Int32) (ti : Int32) (b : Nat) (g : Nat) (gs : Nat) (gy : Nat) (gq : Nat) (u5 : Int32) : kM γ l yX2_liveYears cX2_liveYears 8 none ({ frames := 2, cells := 0, slots := 0, locals := 44 } : Room) [.ref h, .ref b, .ref g, .int ti] [(h, .inr (2, [.ref hs, .int w1x, .int w2x, .int w3x, .long w4x])), (hs, .inr (7, [.ref hs_l, .ref hs_c, .ref hs_g, .ref hs_r, .ref hs_k, .ref hs_b, .int y6, .int y7, .int y8])), (hs_l, .inl (γ.2.1 0, 5, .inl fhs_l)), (hs_c, .inl (γ.2.1 0, 5, .inl fhs_c)), (hs_g, .inl (γ.2.1 0, 5, .inl fhs_g)), (hs_r, .inl (γ.2.1 1, 5, .inr (.inl fhs_r))), (hs_k, .inl (γ.2.1 0, 40, .inl fhs_k)), (hs_b, .inl (γ.2.1 0, 8, .inl fhs_b)), (g, .inr (3, [.ref gs, .ref gy, .ref gq, .int 0, .int 0, .int u5]))] (fun r w1 => ∃ (ghs_l : Nat → Int32), ∃ (ghs_c : Nat → Int32), ∃ (ghs_g : Nat → Int32), ∃ (ghs_r : Nat → Int64), ∃ (ghs_k : Nat → Int32), ∃ (ghs_b : Nat → Int32), r = none ∧ w1 = [(h, .inr (2, [.ref hs, .int 0, .int (-1), .int (-1), .long w4x])), (hs, .inr (7, [.ref hs_l, .ref hs_c, .ref hs_g, .ref hs_r, .ref hs_k, .ref hs_b, .int 0, .int 0, .int 0])), (hs_l, .inl (γ.2.1 0, 5, .inl ghs_l)), (hs_c, .inl (γ.2.1 0, 5, .inl ghs_c)), (hs_g, .inl (γ.2.1 0, 5, .inl ghs_g)), (hs_r, .inl (γ.2.1 1, 5, .inr (.inl ghs_r))), (hs_k, .inl (γ.2.1 0, 40, .inl ghs_k)), (hs_b, .inl (γ.2.1 0, 8, .inl ghs_b))] ∧ (∀ j, j < 5 → ghs_l j = (-1)) ∧ (∀ j, j < 5 → ghs_c j = 0) ∧ (∀ j, j < 5 → ghs_g j = 0) ∧ (∀ j, j < 5 → ghs_r j = 0) ∧ (∀ j, j < 40 → ghs_k j = 0) ∧ (∀ j, j < 8 → ghs_b j = 0)) := by
  refine k_ofW (by decide) (Nat.le_of_ble_eq_true rfl) ?_
  intro p e s m below meth c A ls hC hr hlocks hname hw hl
  have hx := hC.1
  have hb := hC.2.1
  have hl : lv_has ls 8 [(0, .ref h), (1, .ref b), (2, .ref g), (3, .int ti)] := hl
  refine lv_aload_n hx hb dX2_liveYears_0 rfl (lv_at hl 0 rfl) ?_
  refine fg_RX2_12 hC hw 0 rfl rfl dX2_liveYears_1 ?_
  refine k_V (wr := [(h, .inr (2, [.ref hs, .int w1x, .int w2x, .int w3x, .long w4x])), (g, .inr (3, [.ref gs, .ref gy, .ref gq, .int 0, .int 0, .int u5]))]) 0 gw_865 gw_85 gw_86 gw_6 gw_87 hd_X7_clear hC hw (c_X7_clear γ l hs hs_l hs_c hs_g hs_r hs_k hs_b fhs_l fhs_c fhs_g fhs_r fhs_k fhs_b y6 y7 y8) ⟨by decide, by decide⟩ ⟨by decide, by decide⟩ hl.1 rfl 1 rfl rfl rfl (Nat.le_of_ble_eq_true rfl) [1, 2, 3, 4, 5, 6, 7] [0, 8] rfl rfl rfl rfl (by decide) dX2_liveYears_4 (fun r w1 H locs hq hw => ?_)
  obtain ⟨gh_l_618, gh_c_619, gh_g_620, gh_r_621, gh_k_622, gh_b_623, rfl, rfl, g_624, g_625, g_626, g_627, g_628, g_629⟩ := hq
  have hw : kW γ A [(h, .inr (2, [.ref hs, .int w1x, .int w2x, .int w3x, .long w4x])), (g, .inr (3, [.ref gs, .ref gy, .ref gq, .int 0, .int 0, .int u5])), (hs, .inr (7, [.ref hs_l, .ref hs_c, .ref hs_g, .ref hs_r, .ref hs_k, .ref hs_b, .int 0, .int 0, .int 0])), (hs_l, .inl (γ.2.1 0, 5, .inl gh_l_618)), (hs_c, .inl (γ.2.1 0, 5, .inl gh_c_619)), (hs_g, .inl (γ.2.1 0, 5, .inl gh_g_620)), (hs_r, .inl (γ.2.1 1, 5, .inr (.inl gh_r_621))), (hs_k, .inl (γ.2.1 0, 40, .inl gh_k_622)), (hs_b, .inl (γ.2.1 0, 8, .inl gh_b_623))] s H locs := hw
  refine W.eq (g2 := F0 m 7 ls []) rfl ?_
  refine lv_aload_n hx hb dX2_liveYears_7 rfl (lv_at hl 0 rfl) ?_
  refine lv_iconst (v := 0) hx hb dX2_liveYears_8 (by decide) ?_
  refine fs_RX2_21 hC hw 0 rfl rfl rfl (Nat.le_of_ble_eq_true rfl) dX2_liveYears_9 (fun H locs hw => ?_)
  have hw : kW γ A [(h, .inr (2, [.ref hs, .int 0, .int w2x, .int w3x, .long w4x])), (g, .inr (3, [.ref gs, .ref gy, .ref gq, .int 0, .int 0, .int u5])), (hs, .inr (7, [.ref hs_l, .ref hs_c, .ref hs_g, .ref hs_r, .ref hs_k, .ref hs_b, .int 0, .int 0, .int 0])), (hs_l, .inl (γ.2.1 0, 5, .inl gh_l_618)), (hs_c, .inl (γ.2.1 0, 5, .inl gh_c_619)), (hs_g, .inl (γ.2.1 0, 5, .inl gh_g_620)), (hs_r, .inl (γ.2.1 1, 5, .inr (.inl gh_r_621))), (hs_k, .inl (γ.2.1 0, 40, .inl gh_k_622)), (hs_b, .inl (γ.2.1 0, 8, .inl gh_b_623))] s H locs := hw
  refine lv_aload_n hx hb dX2_liveYears_12 rfl (lv_at hl 0 rfl) ?_
  refine lv_iconst (v := (-1)) hx hb dX2_liveYears_13 (by decide) ?_
  refine fs_RX2_25 hC hw 0 rfl rfl rfl (Nat.le_of_ble_eq_true rfl) dX2_liveYears_14 (fun H locs hw => ?_)
  have hw : kW γ A [(h, .inr (2, [.ref hs, .int 0, .int (-1), .int w3x, .long w4x])), (g, .inr (3, [.ref gs, .ref gy, .ref gq, .int 0, .int 0, .int u5])), (hs, .inr (7, [.ref hs_l, .ref hs_c, .ref hs_g, .ref hs_r, .ref hs_k, .ref hs_b, .int 0, .int 0, .int 0])), (hs_l, .inl (γ.2.1 0, 5, .inl gh_l_618)), (hs_c, .inl (γ.2.1 0, 5, .inl gh_c_619)), (hs_g, .inl (γ.2.1 0, 5, .inl gh_g_620)), (hs_r, .inl (γ.2.1 1, 5, .inr (.inl gh_r_621))), (hs_k, .inl (γ.2.1 0, 40, .inl gh_k_622)), (hs_b, .inl (γ.2.1 0, 8, .inl gh_b_623))] s H locs := hw
  refine lv_aload_n hx hb dX2_liveYears_17 rfl (lv_at hl 0 rfl) ?_
  refine lv_iconst (v := (-1)) hx hb dX2_liveYears_18 (by decide) ?_
  refine fs_RX2_28 hC hw 0 rfl rfl rfl (Nat.le_of_ble_eq_true rfl) dX2_liveYears_19 (fun H locs hw => ?_)
  have hw : kW γ A [(h, .inr (2, [.ref hs, .int 0, .int (-1), .int (-1), .long w4x])), (g, .inr (3, [.ref gs, .ref gy, .ref gq, .int 0, .int 0, .int u5])), (hs, .inr (7, [.ref hs_l, .ref hs_c, .ref hs_g, .ref hs_r, .ref hs_k, .ref hs_b, .int 0, .int 0, .int 0])), (hs_l, .inl (γ.2.1 0, 5, .inl gh_l_618)), (hs_c, .inl (γ.2.1 0, 5, .inl gh_c_619)), (hs_g, .inl (γ.2.1 0, 5, .inl gh_g_620)), (hs_r, .inl (γ.2.1 1, 5, .inr (.inl gh_r_621))), (hs_k, .inl (γ.2.1 0, 40, .inl gh_k_622)), (hs_b, .inl (γ.2.1 0, 8, .inl gh_b_623))] s H locs := hw
  refine lv_iconst (v := 0) hx hb dX2_liveYears_22 (by decide) ?_
  refine lv_istore (lv' := [(4, .int 0), (0, .ref h), (1, .ref b), (2, .ref g), (3, .int ti)]) hx hb dX2_liveYears_23 hl (by decide) rfl (fun ls hl => ?_)
  refine lv_iload hx hb dX2_liveYears_25 (lv_at hl 0 rfl) ?_
  refine lv_aload_n hx hb dX2_liveYears_27 rfl (lv_at hl 3 rfl) ?_
  refine fg_RX2_31 hC hw 1 rfl rfl dX2_liveYears_28 ?_
  refine lv_icmp_ge (tgt := 132) hx hb dX2_liveYears_31 (by decide) (fun _ => ?_) (fun h => absurd (by decide) h)
  exact k_vret hC hr hlocks hw [0, 2, 3, 4, 5, 6, 7, 8] rfl rfl ⟨gh_l_618, gh_c_619, gh_g_620, gh_r_621, gh_k_622, gh_b_623, rfl, rfl, g_624, g_625, g_626, g_627, g_628, g_629⟩ (by decide) (by decide) dX2_liveYears_132

set_option maxHeartbeats 4000000 in
set_option maxRecDepth 100000 in
theorem c_X2_liveByDraws (γ : kΓ) (l : Launch) (h : Nat) (hs : Nat) (hs_l : Nat) (hs_c : Nat) (hs_g : Nat) (hs_r : Nat) (hs_k : Nat) (hs_b : Nat) (fhs_l : Nat → Int32) (fhs_c : Nat → Int32) (fhs_g : Nat → Int32) (fhs_r : Nat → Int64) (fhs_k : Nat → Int32) (fhs_b : Nat → Int32) (w1x : Int32) (w2x : Int32) (w3x : Int32) (w4x : Int64) (y6 : Int32) (y7 : Int32) (y8 : Int32) (sd : Int32) (sp : Int32) (b : Nat) (b0 : Nat) (b1 : Nat) (b2 : Nat) (b3 : Nat) (b4 : Nat) (b5 : Nat) (b6 : Nat) (b7 : Nat) (o : Nat) (o_l : Nat) (o_c : Nat) (o_g : Nat) (o_r : Nat) (o_k : Nat) (o_b : Nat) (fo_l : Nat → Int32) (fo_c : Nat → Int32) (fo_g : Nat → Int32) (fo_r : Nat → Int64) (fo_k : Nat → Int32) (fo_b : Nat → Int32) : kM γ l yX2_liveByDraws cX2_liveByDraws 8 none ({ frames := 2, cells := 0, slots := 0, locals := 101 } : Room) [.ref h, .ref b, .ref o, .int sd, .int sp] [(h, .inr (2, [.ref hs, .int w1x, .int w2x, .int w3x, .long w4x])), (hs, .inr (7, [.ref hs_l, .ref hs_c, .ref hs_g, .ref hs_r, .ref hs_k, .ref hs_b, .int y6, .int y7, .int y8])), (hs_l, .inl (γ.2.1 0, 5, .inl fhs_l)), (hs_c, .inl (γ.2.1 0, 5, .inl fhs_c)), (hs_g, .inl (γ.2.1 0, 5, .inl fhs_g)), (hs_r, .inl (γ.2.1 1, 5, .inr (.inl fhs_r))), (hs_k, .inl (γ.2.1 0, 40, .inl fhs_k)), (hs_b, .inl (γ.2.1 0, 8, .inl fhs_b)), (b, .inr (0, [.ref b0, .ref b1, .ref b2, .ref b3, .ref b4, .ref b5, .ref b6, .ref b7, .int 0, .int 0, .int 10, .int 10, .int 3, .int 0, .int 0, .int 0, .int 0, .int 0, .int 0])), (o, .inr (7, [.ref o_l, .ref o_c, .ref o_g, .ref o_r, .ref o_k, .ref o_b, .int 0, .int 0, .int 0])), (o_l, .inl (γ.2.1 0, 5, .inl fo_l)), (o_c, .inl (γ.2.1 0, 5, .inl fo_c)), (o_g, .inl (γ.2.1 0, 5, .inl fo_g)), (o_r, .inl (γ.2.1 1, 5, .inr (.inl fo_r))), (o_k, .inl (γ.2.1 0, 40, .inl fo_k)), (o_b, .inl (γ.2.1 0, 8, .inl fo_b))] (fun r w1 => ∃ (ghs_l : Nat → Int32), ∃ (ghs_c : Nat → Int32), ∃ (ghs_g : Nat → Int32), ∃ (ghs_r : Nat → Int64), ∃ (ghs_k : Nat → Int32), ∃ (ghs_b : Nat → Int32), ∃ (dr : Int64), r = none ∧ w1 = [(h, .inr (2, [.ref hs, .int 0, .int w2x, .int w3x, .long dr])), (hs, .inr (7, [.ref hs_l, .ref hs_c, .ref hs_g, .ref hs_r, .ref hs_k, .ref hs_b, .int 0, .int 0, .int 0])), (hs_l, .inl (γ.2.1 0, 5, .inl ghs_l)), (hs_c, .inl (γ.2.1 0, 5, .inl ghs_c)), (hs_g, .inl (γ.2.1 0, 5, .inl ghs_g)), (hs_r, .inl (γ.2.1 1, 5, .inr (.inl ghs_r))), (hs_k, .inl (γ.2.1 0, 40, .inl ghs_k)), (hs_b, .inl (γ.2.1 0, 8, .inl ghs_b)), (o, .inr (7, [.ref o_l, .ref o_c, .ref o_g, .ref o_r, .ref o_k, .ref o_b, .int 0, .int 0, .int 0])), (o_l, .inl (γ.2.1 0, 5, .inl fo_l)), (o_c, .inl (γ.2.1 0, 5, .inl fo_c)), (o_g, .inl (γ.2.1 0, 5, .inl fo_g)), (o_r, .inl (γ.2.1 1, 5, .inr (.inl fo_r))), (o_k, .inl (γ.2.1 0, 40, .inl fo_k)), (o_b, .inl (γ.2.1 0, 8, .inl fo_b))] ∧ (∀ j, j < 5 → ghs_l j = fo_l j) ∧ (∀ j, j < 5 → ghs_c j = fo_c j) ∧ (∀ j, j < 5 → ghs_g j = fo_g j) ∧ (∀ j, j < 5 → ghs_r j = fo_r j) ∧ (∀ j, j < 40 → ghs_k j = fo_k j) ∧ (∀ j, j < 8 → ghs_b j = fo_b j)) := by
  refine k_ofW (by decide) (Nat.le_of_ble_eq_true rfl) ?_
  intro p e s m below meth c A ls hC hr hlocks hname hw hl
  have hx := hC.1
  have hb := hC.2.1
  have hl : lv_has ls 8 [(0, .ref h), (1, .ref b), (2, .ref o), (3, .int sd), (4, .int sp)] := hl
  refine lv_aload_n hx hb dX2_liveByDraws_0 rfl (lv_at hl 0 rfl) ?_
  refine fg_RX2_12 hC hw 0 rfl rfl dX2_liveByDraws_1 ?_
  refine lv_aload_n hx hb dX2_liveByDraws_4 rfl (lv_at hl 2 rfl) ?_
  refine k_V (wr := [(h, .inr (2, [.ref hs, .int w1x, .int w2x, .int w3x, .long w4x])), (b, .inr (0, [.ref b0, .ref b1, .ref b2, .ref b3, .ref b4, .ref b5, .ref b6, .ref b7, .int 0, .int 0, .int 10, .int 10, .int 3, .int 0, .int 0, .int 0, .int 0, .int 0, .int 0]))]) 1 gw_1173 gw_761 gw_762 gw_6 gw_763 hd_X7_copy hC hw (c_X7_copy γ l hs hs_l hs_c hs_g hs_r hs_k hs_b fhs_l fhs_c fhs_g fhs_r fhs_k fhs_b y6 y7 y8 o o_l o_c o_g o_r o_k o_b fo_l fo_c fo_g fo_r fo_k fo_b 0 0 0) ⟨by decide, by decide⟩ ⟨by decide, by decide⟩ hl.1 rfl 1 rfl rfl rfl (Nat.le_of_ble_eq_true rfl) [1, 2, 3, 4, 5, 6, 7, 9, 10, 11, 12, 13, 14, 15] [0, 8] rfl rfl rfl rfl (by decide) dX2_liveByDraws_5 (fun r w1 H locs hq hw => ?_)
  obtain ⟨gh_l_630, gh_c_631, gh_g_632, gh_r_633, gh_k_634, gh_b_635, rfl, rfl, g_636, g_637, g_638, g_639, g_640, g_641⟩ := hq
  have hw : kW γ A [(h, .inr (2, [.ref hs, .int w1x, .int w2x, .int w3x, .long w4x])), (b, .inr (0, [.ref b0, .ref b1, .ref b2, .ref b3, .ref b4, .ref b5, .ref b6, .ref b7, .int 0, .int 0, .int 10, .int 10, .int 3, .int 0, .int 0, .int 0, .int 0, .int 0, .int 0])), (hs, .inr (7, [.ref hs_l, .ref hs_c, .ref hs_g, .ref hs_r, .ref hs_k, .ref hs_b, .int 0, .int 0, .int 0])), (hs_l, .inl (γ.2.1 0, 5, .inl gh_l_630)), (hs_c, .inl (γ.2.1 0, 5, .inl gh_c_631)), (hs_g, .inl (γ.2.1 0, 5, .inl gh_g_632)), (hs_r, .inl (γ.2.1 1, 5, .inr (.inl gh_r_633))), (hs_k, .inl (γ.2.1 0, 40, .inl gh_k_634)), (hs_b, .inl (γ.2.1 0, 8, .inl gh_b_635)), (o, .inr (7, [.ref o_l, .ref o_c, .ref o_g, .ref o_r, .ref o_k, .ref o_b, .int 0, .int 0, .int 0])), (o_l, .inl (γ.2.1 0, 5, .inl fo_l)), (o_c, .inl (γ.2.1 0, 5, .inl fo_c)), (o_g, .inl (γ.2.1 0, 5, .inl fo_g)), (o_r, .inl (γ.2.1 1, 5, .inr (.inl fo_r))), (o_k, .inl (γ.2.1 0, 40, .inl fo_k)), (o_b, .inl (γ.2.1 0, 8, .inl fo_b))] s H locs := hw
  refine W.eq (g2 := F0 m 8 ls []) rfl ?_
  refine lv_aload_n hx hb dX2_liveByDraws_8 rfl (lv_at hl 0 rfl) ?_
  refine lv_iconst (v := 0) hx hb dX2_liveByDraws_9 (by decide) ?_
  refine fs_RX2_21 hC hw 0 rfl rfl rfl (Nat.le_of_ble_eq_true rfl) dX2_liveByDraws_10 (fun H locs hw => ?_)
  have hw : kW γ A [(h, .inr (2, [.ref hs, .int 0, .int w2x, .int w3x, .long w4x])), (b, .inr (0, [.ref b0, .ref b1, .ref b2, .ref b3, .ref b4, .ref b5, .ref b6, .ref b7, .int 0, .int 0, .int 10, .int 10, .int 3, .int 0, .int 0, .int 0, .int 0, .int 0, .int 0])), (hs, .inr (7, [.ref hs_l, .ref hs_c, .ref hs_g, .ref hs_r, .ref hs_k, .ref hs_b, .int 0, .int 0, .int 0])), (hs_l, .inl (γ.2.1 0, 5, .inl gh_l_630)), (hs_c, .inl (γ.2.1 0, 5, .inl gh_c_631)), (hs_g, .inl (γ.2.1 0, 5, .inl gh_g_632)), (hs_r, .inl (γ.2.1 1, 5, .inr (.inl gh_r_633))), (hs_k, .inl (γ.2.1 0, 40, .inl gh_k_634)), (hs_b, .inl (γ.2.1 0, 8, .inl gh_b_635)), (o, .inr (7, [.ref o_l, .ref o_c, .ref o_g, .ref o_r, .ref o_k, .ref o_b, .int 0, .int 0, .int 0])), (o_l, .inl (γ.2.1 0, 5, .inl fo_l)), (o_c, .inl (γ.2.1 0, 5, .inl fo_c)), (o_g, .inl (γ.2.1 0, 5, .inl fo_g)), (o_r, .inl (γ.2.1 1, 5, .inr (.inl fo_r))), (o_k, .inl (γ.2.1 0, 40, .inl fo_k)), (o_b, .inl (γ.2.1 0, 8, .inl fo_b))] s H locs := hw
  refine lv_aload_n hx hb dX2_liveByDraws_13 rfl (lv_at hl 0 rfl) ?_
  refine lv_iload_n hx hb dX2_liveByDraws_14 rfl (lv_at hl 3 rfl) ?_
  refine lv_i2l hx hb dX2_liveByDraws_15 rfl ?_
  refine lv_topl (fun x_642 ex_642 => ?_)
  refine fs_RX2_90 hC hw 0 rfl rfl rfl (Nat.le_of_ble_eq_true rfl) dX2_liveByDraws_16 (fun H locs hw => ?_)
  have hw : kW γ A [(h, .inr (2, [.ref hs, .int 0, .int w2x, .int w3x, .long x_642])), (b, .inr (0, [.ref b0, .ref b1, .ref b2, .ref b3, .ref b4, .ref b5, .ref b6, .ref b7, .int 0, .int 0, .int 10, .int 10, .int 3, .int 0, .int 0, .int 0, .int 0, .int 0, .int 0])), (hs, .inr (7, [.ref hs_l, .ref hs_c, .ref hs_g, .ref hs_r, .ref hs_k, .ref hs_b, .int 0, .int 0, .int 0])), (hs_l, .inl (γ.2.1 0, 5, .inl gh_l_630)), (hs_c, .inl (γ.2.1 0, 5, .inl gh_c_631)), (hs_g, .inl (γ.2.1 0, 5, .inl gh_g_632)), (hs_r, .inl (γ.2.1 1, 5, .inr (.inl gh_r_633))), (hs_k, .inl (γ.2.1 0, 40, .inl gh_k_634)), (hs_b, .inl (γ.2.1 0, 8, .inl gh_b_635)), (o, .inr (7, [.ref o_l, .ref o_c, .ref o_g, .ref o_r, .ref o_k, .ref o_b, .int 0, .int 0, .int 0])), (o_l, .inl (γ.2.1 0, 5, .inl fo_l)), (o_c, .inl (γ.2.1 0, 5, .inl fo_c)), (o_g, .inl (γ.2.1 0, 5, .inl fo_g)), (o_r, .inl (γ.2.1 1, 5, .inr (.inl fo_r))), (o_k, .inl (γ.2.1 0, 40, .inl fo_k)), (o_b, .inl (γ.2.1 0, 8, .inl fo_b))] s H locs := hw
  refine lv_aload_n hx hb dX2_liveByDraws_19 rfl (lv_at hl 1 rfl) ?_
  refine fg_RX2_47 hC hw 1 rfl rfl dX2_liveByDraws_20 ?_
  refine lv_if_eq (tgt := 33) hx hb dX2_liveByDraws_23 (by decide) (fun _ => ?_) (fun h => absurd (by decide) h)
  exact k_vret hC hr hlocks hw [0, 2, 3, 4, 5, 6, 7, 8, 9, 10, 11, 12, 13, 14, 15] rfl rfl ⟨gh_l_630, gh_c_631, gh_g_632, gh_r_633, gh_k_634, gh_b_635, x_642, rfl, rfl, g_636, g_637, g_638, g_639, g_640, g_641⟩ (by decide) (by decide) dX2_liveByDraws_33

set_option maxHeartbeats 4000000 in
set_option maxRecDepth 100000 in
theorem c_X11_other (γ : kΓ) (l : Launch) (x : Nat) (x0 : Nat) (x1 : Nat) (x2 : Nat) (x3 : Nat) (x4 : Nat) (x5 : Nat) (x6 : Nat) (x7 : Nat) (x8 : Nat) (x9 : Nat) (x10 : Nat) (x90 : Nat) (x91 : Nat) (x92 : Nat) (x93 : Nat) (x94 : Nat) (x95 : Nat) (x96 : Nat) (x97 : Nat) (x4s : Nat) (x4s_l : Nat) (x4s_c : Nat) (x4s_g : Nat) (x4s_r : Nat) (x4s_k : Nat) (x4s_b : Nat) (fx4s_l : Nat → Int32) (fx4s_c : Nat → Int32) (fx4s_g : Nat → Int32) (fx4s_r : Nat → Int64) (fx4s_k : Nat → Int32) (fx4s_b : Nat → Int32) (x2s : Nat) (x2y : Nat) (x2q : Nat) (t : Int32) : kM γ l yX11_other cX11_other 2 ((some .int)) ({ frames := 3, cells := 0, slots := 0, locals := 71 } : Room) [.ref x, .int t] [(x, .inr (10, [.ref x0, .ref x1, .ref x2, .ref x3, .ref x4, .ref x5, .ref x6, .ref x7, .ref x8, .ref x9, .ref x10])), (x9, .inr (0, [.ref x90, .ref x91, .ref x92, .ref x93, .ref x94, .ref x95, .ref x96, .ref x97, .int 0, .int 0, .int 10, .int 10, .int 3, .int 0, .int 0, .int 0, .int 0, .int 0, .int 0])), (x4, .inr (2, [.ref x4s, .int 0, .int 0, .int 0, .long 0])), (x4s, .inr (7, [.ref x4s_l, .ref x4s_c, .ref x4s_g, .ref x4s_r, .ref x4s_k, .ref x4s_b, .int 0, .int 0, .int 0])), (x4s_l, .inl (γ.2.1 0, 5, .inl fx4s_l)), (x4s_c, .inl (γ.2.1 0, 5, .inl fx4s_c)), (x4s_g, .inl (γ.2.1 0, 5, .inl fx4s_g)), (x4s_r, .inl (γ.2.1 1, 5, .inr (.inl fx4s_r))), (x4s_k, .inl (γ.2.1 0, 40, .inl fx4s_k)), (x4s_b, .inl (γ.2.1 0, 8, .inl fx4s_b)), (x2, .inr (3, [.ref x2s, .ref x2y, .ref x2q, .int 0, .int 0, .int 0]))] (fun r w1 => ∃ (r9 : Int32), r = some (.int r9) ∧ w1 = [] ∧ (r9 = kother t)) := by
  refine k_ofW (by decide) (Nat.le_of_ble_eq_true rfl) ?_
  intro p e s m below meth c A ls hC hr hlocks hname hw hl
  have hx := hC.1
  have hb := hC.2.1
  have hl : lv_has ls 2 [(0, .ref x), (1, .int t)] := hl
  refine lv_iload_n hx hb dX11_other_0 rfl (lv_at hl 1 rfl) ?_
  refine lv_iconst (v := 2) hx hb dX11_other_1 (by decide) ?_
  refine lv_icmp_lt (tgt := 11) hx hb dX11_other_2 (by decide) (fun c1 => ?_) (fun c1 => ?_)
  · refine lv_iconst (v := (-1)) hx hb dX11_other_11 (by decide) ?_
    exact k_iret hC hr hlocks hw [] rfl rfl ⟨(-1), rfl, rfl, (by unfold kother; first | rw [if_pos c1] | rw [if_neg c1, if_pos (Int32.not_le.mp c2)] | rw [if_neg c1, if_neg (Int32.not_lt.mpr c2)])⟩ (by decide) (by decide) dX11_other_12
  · refine lv_iload_n hx hb dX11_other_5 rfl (lv_at hl 1 rfl) ?_
    refine lv_bipush (v := 12) hx hb dX11_other_6 (by decide) ?_
    refine lv_icmp_le (tgt := 13) hx hb dX11_other_8 (by decide) (fun c2 => ?_) (fun c2 => ?_)
    · refine lv_aload_n hx hb dX11_other_13 rfl (lv_at hl 0 rfl) ?_
      refine fg_RX11_37 hC hw 0 rfl rfl dX11_other_14 ?_
      refine lv_aload_n hx hb dX11_other_17 rfl (lv_at hl 0 rfl) ?_
      refine fg_RX11_65 hC hw 0 rfl rfl dX11_other_18 ?_
      refine lv_aload_n hx hb dX11_other_21 rfl (lv_at hl 0 rfl) ?_
      refine fg_RX11_26 hC hw 0 rfl rfl dX11_other_22 ?_
      refine lv_iload_n hx hb dX11_other_25 rfl (lv_at hl 1 rfl) ?_
      refine k_V (wr := [(x, .inr (10, [.ref x0, .ref x1, .ref x2, .ref x3, .ref x4, .ref x5, .ref x6, .ref x7, .ref x8, .ref x9, .ref x10])), (x9, .inr (0, [.ref x90, .ref x91, .ref x92, .ref x93, .ref x94, .ref x95, .ref x96, .ref x97, .int 0, .int 0, .int 10, .int 10, .int 3, .int 0, .int 0, .int 0, .int 0, .int 0, .int 0]))]) 3 gw_861 gw_862 gw_863 gw_9 gw_864 hd_X2_liveYears hC hw (c_X2_liveYears γ l x4 x4s x4s_l x4s_c x4s_g x4s_r x4s_k x4s_b fx4s_l fx4s_c fx4s_g fx4s_r fx4s_k fx4s_b 0 0 0 0 0 0 0 t x9 x2 x2s x2y x2q 0) ⟨by decide, by decide⟩ ⟨by decide, by decide⟩ hl.1 rfl 2 rfl rfl rfl (Nat.le_of_ble_eq_true rfl) [2, 3, 4, 5, 6, 7, 8, 9, 10] [0, 1] rfl rfl rfl rfl (by decide) dX11_other_26 (fun r w1 H locs hq hw => ?_)
      obtain ⟨ghs_l_643, ghs_c_644, ghs_g_645, ghs_r_646, ghs_k_647, ghs_b_648, rfl, rfl, g_649, g_650, g_651, g_652, g_653, g_654⟩ := hq
      have hw : kW γ A [(x, .inr (10, [.ref x0, .ref x1, .ref x2, .ref x3, .ref x4, .ref x5, .ref x6, .ref x7, .ref x8, .ref x9, .ref x10])), (x9, .inr (0, [.ref x90, .ref x91, .ref x92, .ref x93, .ref x94, .ref x95, .ref x96, .ref x97, .int 0, .int 0, .int 10, .int 10, .int 3, .int 0, .int 0, .int 0, .int 0, .int 0, .int 0])), (x4, .inr (2, [.ref x4s, .int 0, .int (-1), .int (-1), .long 0])), (x4s, .inr (7, [.ref x4s_l, .ref x4s_c, .ref x4s_g, .ref x4s_r, .ref x4s_k, .ref x4s_b, .int 0, .int 0, .int 0])), (x4s_l, .inl (γ.2.1 0, 5, .inl ghs_l_643)), (x4s_c, .inl (γ.2.1 0, 5, .inl ghs_c_644)), (x4s_g, .inl (γ.2.1 0, 5, .inl ghs_g_645)), (x4s_r, .inl (γ.2.1 1, 5, .inr (.inl ghs_r_646))), (x4s_k, .inl (γ.2.1 0, 40, .inl ghs_k_647)), (x4s_b, .inl (γ.2.1 0, 8, .inl ghs_b_648))] s H locs := hw
      refine W.eq (g2 := F0 m 29 ls []) rfl ?_
      refine lv_aload_n hx hb dX11_other_29 rfl (lv_at hl 0 rfl) ?_
      refine fg_RX11_37 hC hw 0 rfl rfl dX11_other_30 ?_
      refine fg_RX11_242 hC hw 2 rfl rfl dX11_other_33 ?_
      exact k_iret hC hr hlocks hw [] rfl rfl ⟨0, rfl, rfl, (by unfold kother; first | rw [if_pos c1] | rw [if_neg c1, if_pos (Int32.not_le.mp c2)] | rw [if_neg c1, if_neg (Int32.not_lt.mpr c2)])⟩ (by decide) (by decide) dX11_other_36
    · refine lv_iconst (v := (-1)) hx hb dX11_other_11 (by decide) ?_
      exact k_iret hC hr hlocks hw [] rfl rfl ⟨(-1), rfl, rfl, (by unfold kother; first | rw [if_pos c1] | rw [if_neg c1, if_pos (Int32.not_le.mp c2)] | rw [if_neg c1, if_neg (Int32.not_lt.mpr c2)])⟩ (by decide) (by decide) dX11_other_12

set_option maxHeartbeats 4000000 in
set_option maxRecDepth 100000 in
theorem c_X11_judged_0 (γ : kΓ) (l : Launch) (x : Nat) (x0 : Nat) (x1 : Nat) (x2 : Nat) (x3 : Nat) (x4 : Nat) (x5 : Nat) (x6 : Nat) (x7 : Nat) (x8 : Nat) (x9 : Nat) (x10 : Nat) (x90 : Nat) (x91 : Nat) (x92 : Nat) (x93 : Nat) (x94 : Nat) (x95 : Nat) (x96 : Nat) (x97 : Nat) (x4s : Nat) (x4s_l : Nat) (x4s_c : Nat) (x4s_g : Nat) (x4s_r : Nat) (x4s_k : Nat) (x4s_b : Nat) (fx4s_l : Nat → Int32) (fx4s_c : Nat → Int32) (fx4s_g : Nat → Int32) (fx4s_r : Nat → Int64) (fx4s_k : Nat → Int32) (fx4s_b : Nat → Int32) (x2s : Nat) (x2y : Nat) (x2q : Nat) : kM γ l yX11_judged cX11_judged 2 ((some .int)) ({ frames := 3, cells := 0, slots := 0, locals := 71 } : Room) [.ref x, .int 0] [(x, .inr (10, [.ref x0, .ref x1, .ref x2, .ref x3, .ref x4, .ref x5, .ref x6, .ref x7, .ref x8, .ref x9, .ref x10])), (x9, .inr (0, [.ref x90, .ref x91, .ref x92, .ref x93, .ref x94, .ref x95, .ref x96, .ref x97, .int 0, .int 0, .int 10, .int 10, .int 3, .int 0, .int 0, .int 0, .int 0, .int 0, .int 0])), (x4, .inr (2, [.ref x4s, .int 0, .int 0, .int 0, .long 0])), (x4s, .inr (7, [.ref x4s_l, .ref x4s_c, .ref x4s_g, .ref x4s_r, .ref x4s_k, .ref x4s_b, .int 0, .int 0, .int 0])), (x4s_l, .inl (γ.2.1 0, 5, .inl fx4s_l)), (x4s_c, .inl (γ.2.1 0, 5, .inl fx4s_c)), (x4s_g, .inl (γ.2.1 0, 5, .inl fx4s_g)), (x4s_r, .inl (γ.2.1 1, 5, .inr (.inl fx4s_r))), (x4s_k, .inl (γ.2.1 0, 40, .inl fx4s_k)), (x4s_b, .inl (γ.2.1 0, 8, .inl fx4s_b)), (x2, .inr (3, [.ref x2s, .ref x2y, .ref x2q, .int 0, .int 0, .int 0]))] (fun r w1 => r = some (.int (-1)) ∧ w1 = []) := by
  refine k_ofW (by decide) (Nat.le_of_ble_eq_true rfl) ?_
  intro p e s m below meth c A ls hC hr hlocks hname hw hl
  have hx := hC.1
  have hb := hC.2.1
  have hl : lv_has ls 2 [(0, .ref x), (1, .int 0)] := hl
  refine lv_iload_n hx hb dX11_judged_0 rfl (lv_at hl 1 rfl) ?_
  refine lv_if_lt (tgt := 9) hx hb dX11_judged_1 (by decide) (fun h => absurd h (by decide)) (fun _ => ?_)
  refine lv_iload_n hx hb dX11_judged_4 rfl (lv_at hl 1 rfl) ?_
  refine lv_iconst (v := 2) hx hb dX11_judged_5 (by decide) ?_
  refine lv_icmp_le (tgt := 17) hx hb dX11_judged_6 (by decide) (fun _ => ?_) (fun h => absurd (by decide) h)
  refine lv_aload_n hx hb dX11_judged_17 rfl (lv_at hl 0 rfl) ?_
  refine fg_RX11_37 hC hw 0 rfl rfl dX11_judged_18 ?_
  refine lv_aload_n hx hb dX11_judged_21 rfl (lv_at hl 0 rfl) ?_
  refine fg_RX11_65 hC hw 0 rfl rfl dX11_judged_22 ?_
  refine lv_aload_n hx hb dX11_judged_25 rfl (lv_at hl 0 rfl) ?_
  refine fg_RX11_26 hC hw 0 rfl rfl dX11_judged_26 ?_
  refine lv_aload_n hx hb dX11_judged_29 rfl (lv_at hl 0 rfl) ?_
  refine fg_RX11_65 hC hw 0 rfl rfl dX11_judged_30 ?_
  refine fg_RX11_167 hC hw 1 rfl rfl dX11_judged_33 ?_
  refine k_V (wr := [(x, .inr (10, [.ref x0, .ref x1, .ref x2, .ref x3, .ref x4, .ref x5, .ref x6, .ref x7, .ref x8, .ref x9, .ref x10])), (x9, .inr (0, [.ref x90, .ref x91, .ref x92, .ref x93, .ref x94, .ref x95, .ref x96, .ref x97, .int 0, .int 0, .int 10, .int 10, .int 3, .int 0, .int 0, .int 0, .int 0, .int 0, .int 0]))]) 3 gw_861 gw_862 gw_863 gw_9 gw_864 hd_X2_liveYears hC hw (c_X2_liveYears γ l x4 x4s x4s_l x4s_c x4s_g x4s_r x4s_k x4s_b fx4s_l fx4s_c fx4s_g fx4s_r fx4s_k fx4s_b 0 0 0 0 0 0 0 10 x9 x2 x2s x2y x2q 0) ⟨by decide, by decide⟩ ⟨by decide, by decide⟩ hl.1 rfl 2 rfl rfl rfl (Nat.le_of_ble_eq_true rfl) [2, 3, 4, 5, 6, 7, 8, 9, 10] [0, 1] rfl rfl rfl rfl (by decide) dX11_judged_36 (fun r w1 H locs hq hw => ?_)
  obtain ⟨ghs_l_655, ghs_c_656, ghs_g_657, ghs_r_658, ghs_k_659, ghs_b_660, rfl, rfl, g_661, g_662, g_663, g_664, g_665, g_666⟩ := hq
  have hw : kW γ A [(x, .inr (10, [.ref x0, .ref x1, .ref x2, .ref x3, .ref x4, .ref x5, .ref x6, .ref x7, .ref x8, .ref x9, .ref x10])), (x9, .inr (0, [.ref x90, .ref x91, .ref x92, .ref x93, .ref x94, .ref x95, .ref x96, .ref x97, .int 0, .int 0, .int 10, .int 10, .int 3, .int 0, .int 0, .int 0, .int 0, .int 0, .int 0])), (x4, .inr (2, [.ref x4s, .int 0, .int (-1), .int (-1), .long 0])), (x4s, .inr (7, [.ref x4s_l, .ref x4s_c, .ref x4s_g, .ref x4s_r, .ref x4s_k, .ref x4s_b, .int 0, .int 0, .int 0])), (x4s_l, .inl (γ.2.1 0, 5, .inl ghs_l_655)), (x4s_c, .inl (γ.2.1 0, 5, .inl ghs_c_656)), (x4s_g, .inl (γ.2.1 0, 5, .inl ghs_g_657)), (x4s_r, .inl (γ.2.1 1, 5, .inr (.inl ghs_r_658))), (x4s_k, .inl (γ.2.1 0, 40, .inl ghs_k_659)), (x4s_b, .inl (γ.2.1 0, 8, .inl ghs_b_660))] s H locs := hw
  refine W.eq (g2 := F0 m 39 ls []) rfl ?_
  refine lv_iload_n hx hb dX11_judged_39 rfl (lv_at hl 1 rfl) ?_
  refine lv_lookup (off := 28) (tgt := 68) hx hb dX11_judged_40 (by decide) (by decide) (by decide) ?_
  refine lv_aload_n hx hb dX11_judged_68 rfl (lv_at hl 0 rfl) ?_
  refine fg_RX11_37 hC hw 0 rfl rfl dX11_judged_69 ?_
  refine fg_RX11_232 hC hw 2 rfl rfl dX11_judged_72 ?_
  exact k_iret hC hr hlocks hw [] rfl rfl ⟨rfl, rfl⟩ (by decide) (by decide) dX11_judged_75

set_option maxHeartbeats 4000000 in
set_option maxRecDepth 100000 in
theorem c_X11_judged_1 (γ : kΓ) (l : Launch) (x : Nat) (x0 : Nat) (x1 : Nat) (x2 : Nat) (x3 : Nat) (x4 : Nat) (x5 : Nat) (x6 : Nat) (x7 : Nat) (x8 : Nat) (x9 : Nat) (x10 : Nat) (x90 : Nat) (x91 : Nat) (x92 : Nat) (x93 : Nat) (x94 : Nat) (x95 : Nat) (x96 : Nat) (x97 : Nat) (x4s : Nat) (x4s_l : Nat) (x4s_c : Nat) (x4s_g : Nat) (x4s_r : Nat) (x4s_k : Nat) (x4s_b : Nat) (fx4s_l : Nat → Int32) (fx4s_c : Nat → Int32) (fx4s_g : Nat → Int32) (fx4s_r : Nat → Int64) (fx4s_k : Nat → Int32) (fx4s_b : Nat → Int32) (x2s : Nat) (x2y : Nat) (x2q : Nat) : kM γ l yX11_judged cX11_judged 2 ((some .int)) ({ frames := 3, cells := 0, slots := 0, locals := 71 } : Room) [.ref x, .int 1] [(x, .inr (10, [.ref x0, .ref x1, .ref x2, .ref x3, .ref x4, .ref x5, .ref x6, .ref x7, .ref x8, .ref x9, .ref x10])), (x9, .inr (0, [.ref x90, .ref x91, .ref x92, .ref x93, .ref x94, .ref x95, .ref x96, .ref x97, .int 0, .int 0, .int 10, .int 10, .int 3, .int 0, .int 0, .int 0, .int 0, .int 0, .int 0])), (x4, .inr (2, [.ref x4s, .int 0, .int 0, .int 0, .long 0])), (x4s, .inr (7, [.ref x4s_l, .ref x4s_c, .ref x4s_g, .ref x4s_r, .ref x4s_k, .ref x4s_b, .int 0, .int 0, .int 0])), (x4s_l, .inl (γ.2.1 0, 5, .inl fx4s_l)), (x4s_c, .inl (γ.2.1 0, 5, .inl fx4s_c)), (x4s_g, .inl (γ.2.1 0, 5, .inl fx4s_g)), (x4s_r, .inl (γ.2.1 1, 5, .inr (.inl fx4s_r))), (x4s_k, .inl (γ.2.1 0, 40, .inl fx4s_k)), (x4s_b, .inl (γ.2.1 0, 8, .inl fx4s_b)), (x2, .inr (3, [.ref x2s, .ref x2y, .ref x2q, .int 0, .int 0, .int 0]))] (fun r w1 => r = some (.int (-1)) ∧ w1 = []) := by
  refine k_ofW (by decide) (Nat.le_of_ble_eq_true rfl) ?_
  intro p e s m below meth c A ls hC hr hlocks hname hw hl
  have hx := hC.1
  have hb := hC.2.1
  have hl : lv_has ls 2 [(0, .ref x), (1, .int 1)] := hl
  refine lv_iload_n hx hb dX11_judged_0 rfl (lv_at hl 1 rfl) ?_
  refine lv_if_lt (tgt := 9) hx hb dX11_judged_1 (by decide) (fun h => absurd h (by decide)) (fun _ => ?_)
  refine lv_iload_n hx hb dX11_judged_4 rfl (lv_at hl 1 rfl) ?_
  refine lv_iconst (v := 2) hx hb dX11_judged_5 (by decide) ?_
  refine lv_icmp_le (tgt := 17) hx hb dX11_judged_6 (by decide) (fun _ => ?_) (fun h => absurd (by decide) h)
  refine lv_aload_n hx hb dX11_judged_17 rfl (lv_at hl 0 rfl) ?_
  refine fg_RX11_37 hC hw 0 rfl rfl dX11_judged_18 ?_
  refine lv_aload_n hx hb dX11_judged_21 rfl (lv_at hl 0 rfl) ?_
  refine fg_RX11_65 hC hw 0 rfl rfl dX11_judged_22 ?_
  refine lv_aload_n hx hb dX11_judged_25 rfl (lv_at hl 0 rfl) ?_
  refine fg_RX11_26 hC hw 0 rfl rfl dX11_judged_26 ?_
  refine lv_aload_n hx hb dX11_judged_29 rfl (lv_at hl 0 rfl) ?_
  refine fg_RX11_65 hC hw 0 rfl rfl dX11_judged_30 ?_
  refine fg_RX11_167 hC hw 1 rfl rfl dX11_judged_33 ?_
  refine k_V (wr := [(x, .inr (10, [.ref x0, .ref x1, .ref x2, .ref x3, .ref x4, .ref x5, .ref x6, .ref x7, .ref x8, .ref x9, .ref x10])), (x9, .inr (0, [.ref x90, .ref x91, .ref x92, .ref x93, .ref x94, .ref x95, .ref x96, .ref x97, .int 0, .int 0, .int 10, .int 10, .int 3, .int 0, .int 0, .int 0, .int 0, .int 0, .int 0]))]) 3 gw_861 gw_862 gw_863 gw_9 gw_864 hd_X2_liveYears hC hw (c_X2_liveYears γ l x4 x4s x4s_l x4s_c x4s_g x4s_r x4s_k x4s_b fx4s_l fx4s_c fx4s_g fx4s_r fx4s_k fx4s_b 0 0 0 0 0 0 0 10 x9 x2 x2s x2y x2q 0) ⟨by decide, by decide⟩ ⟨by decide, by decide⟩ hl.1 rfl 2 rfl rfl rfl (Nat.le_of_ble_eq_true rfl) [2, 3, 4, 5, 6, 7, 8, 9, 10] [0, 1] rfl rfl rfl rfl (by decide) dX11_judged_36 (fun r w1 H locs hq hw => ?_)
  obtain ⟨ghs_l_667, ghs_c_668, ghs_g_669, ghs_r_670, ghs_k_671, ghs_b_672, rfl, rfl, g_673, g_674, g_675, g_676, g_677, g_678⟩ := hq
  have hw : kW γ A [(x, .inr (10, [.ref x0, .ref x1, .ref x2, .ref x3, .ref x4, .ref x5, .ref x6, .ref x7, .ref x8, .ref x9, .ref x10])), (x9, .inr (0, [.ref x90, .ref x91, .ref x92, .ref x93, .ref x94, .ref x95, .ref x96, .ref x97, .int 0, .int 0, .int 10, .int 10, .int 3, .int 0, .int 0, .int 0, .int 0, .int 0, .int 0])), (x4, .inr (2, [.ref x4s, .int 0, .int (-1), .int (-1), .long 0])), (x4s, .inr (7, [.ref x4s_l, .ref x4s_c, .ref x4s_g, .ref x4s_r, .ref x4s_k, .ref x4s_b, .int 0, .int 0, .int 0])), (x4s_l, .inl (γ.2.1 0, 5, .inl ghs_l_667)), (x4s_c, .inl (γ.2.1 0, 5, .inl ghs_c_668)), (x4s_g, .inl (γ.2.1 0, 5, .inl ghs_g_669)), (x4s_r, .inl (γ.2.1 1, 5, .inr (.inl ghs_r_670))), (x4s_k, .inl (γ.2.1 0, 40, .inl ghs_k_671)), (x4s_b, .inl (γ.2.1 0, 8, .inl ghs_b_672))] s H locs := hw
  refine W.eq (g2 := F0 m 39 ls []) rfl ?_
  refine lv_iload_n hx hb dX11_judged_39 rfl (lv_at hl 1 rfl) ?_
  refine lv_lookup (off := 36) (tgt := 76) hx hb dX11_judged_40 (by decide) (by decide) (by decide) ?_
  refine lv_aload_n hx hb dX11_judged_76 rfl (lv_at hl 0 rfl) ?_
  refine fg_RX11_37 hC hw 0 rfl rfl dX11_judged_77 ?_
  refine fg_RX11_235 hC hw 2 rfl rfl dX11_judged_80 ?_
  exact k_iret hC hr hlocks hw [] rfl rfl ⟨rfl, rfl⟩ (by decide) (by decide) dX11_judged_83

set_option maxHeartbeats 4000000 in
set_option maxRecDepth 100000 in
theorem c_X11_judged_2 (γ : kΓ) (l : Launch) (x : Nat) (x0 : Nat) (x1 : Nat) (x2 : Nat) (x3 : Nat) (x4 : Nat) (x5 : Nat) (x6 : Nat) (x7 : Nat) (x8 : Nat) (x9 : Nat) (x10 : Nat) (x90 : Nat) (x91 : Nat) (x92 : Nat) (x93 : Nat) (x94 : Nat) (x95 : Nat) (x96 : Nat) (x97 : Nat) (x4s : Nat) (x4s_l : Nat) (x4s_c : Nat) (x4s_g : Nat) (x4s_r : Nat) (x4s_k : Nat) (x4s_b : Nat) (fx4s_l : Nat → Int32) (fx4s_c : Nat → Int32) (fx4s_g : Nat → Int32) (fx4s_r : Nat → Int64) (fx4s_k : Nat → Int32) (fx4s_b : Nat → Int32) (x2s : Nat) (x2y : Nat) (x2q : Nat) : kM γ l yX11_judged cX11_judged 2 ((some .int)) ({ frames := 3, cells := 0, slots := 0, locals := 71 } : Room) [.ref x, .int 2] [(x, .inr (10, [.ref x0, .ref x1, .ref x2, .ref x3, .ref x4, .ref x5, .ref x6, .ref x7, .ref x8, .ref x9, .ref x10])), (x9, .inr (0, [.ref x90, .ref x91, .ref x92, .ref x93, .ref x94, .ref x95, .ref x96, .ref x97, .int 0, .int 0, .int 10, .int 10, .int 3, .int 0, .int 0, .int 0, .int 0, .int 0, .int 0])), (x4, .inr (2, [.ref x4s, .int 0, .int 0, .int 0, .long 0])), (x4s, .inr (7, [.ref x4s_l, .ref x4s_c, .ref x4s_g, .ref x4s_r, .ref x4s_k, .ref x4s_b, .int 0, .int 0, .int 0])), (x4s_l, .inl (γ.2.1 0, 5, .inl fx4s_l)), (x4s_c, .inl (γ.2.1 0, 5, .inl fx4s_c)), (x4s_g, .inl (γ.2.1 0, 5, .inl fx4s_g)), (x4s_r, .inl (γ.2.1 1, 5, .inr (.inl fx4s_r))), (x4s_k, .inl (γ.2.1 0, 40, .inl fx4s_k)), (x4s_b, .inl (γ.2.1 0, 8, .inl fx4s_b)), (x2, .inr (3, [.ref x2s, .ref x2y, .ref x2q, .int 0, .int 0, .int 0]))] (fun r w1 => r = some (.int 0) ∧ w1 = []) := by
  refine k_ofW (by decide) (Nat.le_of_ble_eq_true rfl) ?_
  intro p e s m below meth c A ls hC hr hlocks hname hw hl
  have hx := hC.1
  have hb := hC.2.1
  have hl : lv_has ls 2 [(0, .ref x), (1, .int 2)] := hl
  refine lv_iload_n hx hb dX11_judged_0 rfl (lv_at hl 1 rfl) ?_
  refine lv_if_lt (tgt := 9) hx hb dX11_judged_1 (by decide) (fun h => absurd h (by decide)) (fun _ => ?_)
  refine lv_iload_n hx hb dX11_judged_4 rfl (lv_at hl 1 rfl) ?_
  refine lv_iconst (v := 2) hx hb dX11_judged_5 (by decide) ?_
  refine lv_icmp_le (tgt := 17) hx hb dX11_judged_6 (by decide) (fun _ => ?_) (fun h => absurd (by decide) h)
  refine lv_aload_n hx hb dX11_judged_17 rfl (lv_at hl 0 rfl) ?_
  refine fg_RX11_37 hC hw 0 rfl rfl dX11_judged_18 ?_
  refine lv_aload_n hx hb dX11_judged_21 rfl (lv_at hl 0 rfl) ?_
  refine fg_RX11_65 hC hw 0 rfl rfl dX11_judged_22 ?_
  refine lv_aload_n hx hb dX11_judged_25 rfl (lv_at hl 0 rfl) ?_
  refine fg_RX11_26 hC hw 0 rfl rfl dX11_judged_26 ?_
  refine lv_aload_n hx hb dX11_judged_29 rfl (lv_at hl 0 rfl) ?_
  refine fg_RX11_65 hC hw 0 rfl rfl dX11_judged_30 ?_
  refine fg_RX11_167 hC hw 1 rfl rfl dX11_judged_33 ?_
  refine k_V (wr := [(x, .inr (10, [.ref x0, .ref x1, .ref x2, .ref x3, .ref x4, .ref x5, .ref x6, .ref x7, .ref x8, .ref x9, .ref x10])), (x9, .inr (0, [.ref x90, .ref x91, .ref x92, .ref x93, .ref x94, .ref x95, .ref x96, .ref x97, .int 0, .int 0, .int 10, .int 10, .int 3, .int 0, .int 0, .int 0, .int 0, .int 0, .int 0]))]) 3 gw_861 gw_862 gw_863 gw_9 gw_864 hd_X2_liveYears hC hw (c_X2_liveYears γ l x4 x4s x4s_l x4s_c x4s_g x4s_r x4s_k x4s_b fx4s_l fx4s_c fx4s_g fx4s_r fx4s_k fx4s_b 0 0 0 0 0 0 0 10 x9 x2 x2s x2y x2q 0) ⟨by decide, by decide⟩ ⟨by decide, by decide⟩ hl.1 rfl 2 rfl rfl rfl (Nat.le_of_ble_eq_true rfl) [2, 3, 4, 5, 6, 7, 8, 9, 10] [0, 1] rfl rfl rfl rfl (by decide) dX11_judged_36 (fun r w1 H locs hq hw => ?_)
  obtain ⟨ghs_l_679, ghs_c_680, ghs_g_681, ghs_r_682, ghs_k_683, ghs_b_684, rfl, rfl, g_685, g_686, g_687, g_688, g_689, g_690⟩ := hq
  have hw : kW γ A [(x, .inr (10, [.ref x0, .ref x1, .ref x2, .ref x3, .ref x4, .ref x5, .ref x6, .ref x7, .ref x8, .ref x9, .ref x10])), (x9, .inr (0, [.ref x90, .ref x91, .ref x92, .ref x93, .ref x94, .ref x95, .ref x96, .ref x97, .int 0, .int 0, .int 10, .int 10, .int 3, .int 0, .int 0, .int 0, .int 0, .int 0, .int 0])), (x4, .inr (2, [.ref x4s, .int 0, .int (-1), .int (-1), .long 0])), (x4s, .inr (7, [.ref x4s_l, .ref x4s_c, .ref x4s_g, .ref x4s_r, .ref x4s_k, .ref x4s_b, .int 0, .int 0, .int 0])), (x4s_l, .inl (γ.2.1 0, 5, .inl ghs_l_679)), (x4s_c, .inl (γ.2.1 0, 5, .inl ghs_c_680)), (x4s_g, .inl (γ.2.1 0, 5, .inl ghs_g_681)), (x4s_r, .inl (γ.2.1 1, 5, .inr (.inl ghs_r_682))), (x4s_k, .inl (γ.2.1 0, 40, .inl ghs_k_683)), (x4s_b, .inl (γ.2.1 0, 8, .inl ghs_b_684))] s H locs := hw
  refine W.eq (g2 := F0 m 39 ls []) rfl ?_
  refine lv_iload_n hx hb dX11_judged_39 rfl (lv_at hl 1 rfl) ?_
  refine lv_lookup (off := 44) (tgt := 84) hx hb dX11_judged_40 (by decide) (by decide) (by decide) ?_
  refine lv_aload_n hx hb dX11_judged_84 rfl (lv_at hl 0 rfl) ?_
  refine fg_RX11_37 hC hw 0 rfl rfl dX11_judged_85 ?_
  refine fg_RX11_238 hC hw 2 rfl rfl dX11_judged_88 ?_
  refine k_V (wr := [(x, .inr (10, [.ref x0, .ref x1, .ref x2, .ref x3, .ref x4, .ref x5, .ref x6, .ref x7, .ref x8, .ref x9, .ref x10])), (x9, .inr (0, [.ref x90, .ref x91, .ref x92, .ref x93, .ref x94, .ref x95, .ref x96, .ref x97, .int 0, .int 0, .int 10, .int 10, .int 3, .int 0, .int 0, .int 0, .int 0, .int 0, .int 0])), (x4, .inr (2, [.ref x4s, .int 0, .int (-1), .int (-1), .long 0])), (x4s_l, .inl (γ.2.1 0, 5, .inl ghs_l_679)), (x4s_c, .inl (γ.2.1 0, 5, .inl ghs_c_680)), (x4s_r, .inl (γ.2.1 1, 5, .inr (.inl ghs_r_682))), (x4s_k, .inl (γ.2.1 0, 40, .inl ghs_k_683)), (x4s_b, .inl (γ.2.1 0, 8, .inl ghs_b_684))]) 0 gw_1090 gw_1091 gw_1092 gw_6 gw_1093 hd_X7_gainedByAll hC hw (c_X7_gainedByAll γ l x4s x4s_l x4s_c x4s_g x4s_r x4s_k x4s_b ghs_g_681 0 0 0 g_687) ⟨by decide, by decide⟩ ⟨by decide, by decide⟩ hl.1 rfl 3 rfl rfl rfl (Nat.le_of_ble_eq_true rfl) [3, 6] [0, 1, 2, 4, 5, 7, 8, 9] rfl rfl rfl rfl (by decide) dX11_judged_91 (fun r w1 H locs hq hw => ?_)
  obtain ⟨rfl, rfl⟩ := hq
  have hw : kW γ A [(x, .inr (10, [.ref x0, .ref x1, .ref x2, .ref x3, .ref x4, .ref x5, .ref x6, .ref x7, .ref x8, .ref x9, .ref x10])), (x9, .inr (0, [.ref x90, .ref x91, .ref x92, .ref x93, .ref x94, .ref x95, .ref x96, .ref x97, .int 0, .int 0, .int 10, .int 10, .int 3, .int 0, .int 0, .int 0, .int 0, .int 0, .int 0])), (x4, .inr (2, [.ref x4s, .int 0, .int (-1), .int (-1), .long 0])), (x4s_l, .inl (γ.2.1 0, 5, .inl ghs_l_679)), (x4s_c, .inl (γ.2.1 0, 5, .inl ghs_c_680)), (x4s_r, .inl (γ.2.1 1, 5, .inr (.inl ghs_r_682))), (x4s_k, .inl (γ.2.1 0, 40, .inl ghs_k_683)), (x4s_b, .inl (γ.2.1 0, 8, .inl ghs_b_684)), (x4s, .inr (7, [.ref x4s_l, .ref x4s_c, .ref x4s_g, .ref x4s_r, .ref x4s_k, .ref x4s_b, .int 0, .int 0, .int 0])), (x4s_g, .inl (γ.2.1 0, 5, .inl ghs_g_681))] s H locs := hw
  refine W.eq (g2 := F0 m 94 ls [.int 0]) rfl ?_
  exact k_iret hC hr hlocks hw [] rfl rfl ⟨rfl, rfl⟩ (by decide) (by decide) dX11_judged_94

set_option maxHeartbeats 4000000 in
set_option maxRecDepth 100000 in
theorem c_X11_lives_0 (γ : kΓ) (l : Launch) (x : Nat) (x0 : Nat) (x1 : Nat) (x2 : Nat) (x3 : Nat) (x4 : Nat) (x5 : Nat) (x6 : Nat) (x7 : Nat) (x8 : Nat) (x9 : Nat) (x10 : Nat) (x90 : Nat) (x91 : Nat) (x92 : Nat) (x93 : Nat) (x94 : Nat) (x95 : Nat) (x96 : Nat) (x97 : Nat) (x4s : Nat) (x4s_l : Nat) (x4s_c : Nat) (x4s_g : Nat) (x4s_r : Nat) (x4s_k : Nat) (x4s_b : Nat) (fx4s_l : Nat → Int32) (fx4s_c : Nat → Int32) (fx4s_g : Nat → Int32) (fx4s_r : Nat → Int64) (fx4s_k : Nat → Int32) (fx4s_b : Nat → Int32) (x2s : Nat) (x2y : Nat) (x2q : Nat) (x2s_l : Nat) (x2s_c : Nat) (x2s_g : Nat) (x2s_r : Nat) (x2s_k : Nat) (x2s_b : Nat) (fx2s_l : Nat → Int32) (fx2s_c : Nat → Int32) (fx2s_g : Nat → Int32) (fx2s_r : Nat → Int64) (fx2s_k : Nat → Int32) (fx2s_b : Nat → Int32) (sd : Int32) (sp : Int32) (hs0 : ¬ sd < 0) (hs1 : ¬ 9999 < sd) (hs2 : ¬ sp < 1) (hs3 : ¬ 99 < sp) (hz : ∀ j, j < 5 → fx2s_g j = 0) : kM γ l yX11_lives cX11_lives 4 ((some .int)) ({ frames := 3, cells := 0, slots := 0, locals := 128 } : Room) [.ref x, .int sd, .int sp, .int 0] [(x, .inr (10, [.ref x0, .ref x1, .ref x2, .ref x3, .ref x4, .ref x5, .ref x6, .ref x7, .ref x8, .ref x9, .ref x10])), (x9, .inr (0, [.ref x90, .ref x91, .ref x92, .ref x93, .ref x94, .ref x95, .ref x96, .ref x97, .int 0, .int 0, .int 10, .int 10, .int 3, .int 0, .int 0, .int 0, .int 0, .int 0, .int 0])), (x4, .inr (2, [.ref x4s, .int 0, .int 0, .int 0, .long 0])), (x4s, .inr (7, [.ref x4s_l, .ref x4s_c, .ref x4s_g, .ref x4s_r, .ref x4s_k, .ref x4s_b, .int 0, .int 0, .int 0])), (x4s_l, .inl (γ.2.1 0, 5, .inl fx4s_l)), (x4s_c, .inl (γ.2.1 0, 5, .inl fx4s_c)), (x4s_g, .inl (γ.2.1 0, 5, .inl fx4s_g)), (x4s_r, .inl (γ.2.1 1, 5, .inr (.inl fx4s_r))), (x4s_k, .inl (γ.2.1 0, 40, .inl fx4s_k)), (x4s_b, .inl (γ.2.1 0, 8, .inl fx4s_b)), (x2, .inr (3, [.ref x2s, .ref x2y, .ref x2q, .int 0, .int 0, .int 0])), (x2s, .inr (7, [.ref x2s_l, .ref x2s_c, .ref x2s_g, .ref x2s_r, .ref x2s_k, .ref x2s_b, .int 0, .int 0, .int 0])), (x2s_l, .inl (γ.2.1 0, 5, .inl fx2s_l)), (x2s_c, .inl (γ.2.1 0, 5, .inl fx2s_c)), (x2s_g, .inl (γ.2.1 0, 5, .inl fx2s_g)), (x2s_r, .inl (γ.2.1 1, 5, .inr (.inl fx2s_r))), (x2s_k, .inl (γ.2.1 0, 40, .inl fx2s_k)), (x2s_b, .inl (γ.2.1 0, 8, .inl fx2s_b))] (fun r w1 => r = some (.int 0) ∧ w1 = []) := by
  refine k_ofW (by decide) (Nat.le_of_ble_eq_true rfl) ?_
  intro p e s m below meth c A ls hC hr hlocks hname hw hl
  have hx := hC.1
  have hb := hC.2.1
  have hl : lv_has ls 4 [(0, .ref x), (1, .int sd), (2, .int sp), (3, .int 0)] := hl
  refine lv_iload_n hx hb dX11_lives_0 rfl (lv_at hl 1 rfl) ?_
  refine lv_if_lt (tgt := 31) hx hb dX11_lives_1 (by decide) (fun h => absurd h hs0) (fun _ => ?_)
  refine lv_iload_n hx hb dX11_lives_4 rfl (lv_at hl 1 rfl) ?_
  refine lv_sipush (v := 9999) hx hb dX11_lives_5 (by decide) ?_
  refine lv_icmp_gt (tgt := 31) hx hb dX11_lives_8 (by decide) (fun h => absurd h hs1) (fun _ => ?_)
  refine lv_iload_n hx hb dX11_lives_11 rfl (lv_at hl 2 rfl) ?_
  refine lv_iconst (v := 1) hx hb dX11_lives_12 (by decide) ?_
  refine lv_icmp_lt (tgt := 31) hx hb dX11_lives_13 (by decide) (fun h => absurd h hs2) (fun _ => ?_)
  refine lv_iload_n hx hb dX11_lives_16 rfl (lv_at hl 2 rfl) ?_
  refine lv_bipush (v := 99) hx hb dX11_lives_17 (by decide) ?_
  refine lv_icmp_gt (tgt := 31) hx hb dX11_lives_19 (by decide) (fun h => absurd h hs3) (fun _ => ?_)
  refine lv_iload_n hx hb dX11_lives_22 rfl (lv_at hl 3 rfl) ?_
  refine lv_if_lt (tgt := 31) hx hb dX11_lives_23 (by decide) (fun h => absurd h (by decide)) (fun _ => ?_)
  refine lv_iload_n hx hb dX11_lives_26 rfl (lv_at hl 3 rfl) ?_
  refine lv_iconst (v := 2) hx hb dX11_lives_27 (by decide) ?_
  refine lv_icmp_le (tgt := 39) hx hb dX11_lives_28 (by decide) (fun _ => ?_) (fun h => absurd (by decide) h)
  refine lv_aload_n hx hb dX11_lives_39 rfl (lv_at hl 0 rfl) ?_
  refine fg_RX11_37 hC hw 0 rfl rfl dX11_lives_40 ?_
  refine lv_aload_n hx hb dX11_lives_43 rfl (lv_at hl 0 rfl) ?_
  refine fg_RX11_65 hC hw 0 rfl rfl dX11_lives_44 ?_
  refine lv_aload_n hx hb dX11_lives_47 rfl (lv_at hl 0 rfl) ?_
  refine fg_RX11_26 hC hw 0 rfl rfl dX11_lives_48 ?_
  refine fg_RX11_131 hC hw 10 rfl rfl dX11_lives_51 ?_
  refine lv_iload_n hx hb dX11_lives_54 rfl (lv_at hl 1 rfl) ?_
  refine lv_iload_n hx hb dX11_lives_55 rfl (lv_at hl 2 rfl) ?_
  refine k_V (wr := [(x, .inr (10, [.ref x0, .ref x1, .ref x2, .ref x3, .ref x4, .ref x5, .ref x6, .ref x7, .ref x8, .ref x9, .ref x10])), (x2, .inr (3, [.ref x2s, .ref x2y, .ref x2q, .int 0, .int 0, .int 0]))]) 4 gw_1169 gw_1170 gw_1171 gw_9 gw_1172 hd_X2_liveByDraws hC hw (c_X2_liveByDraws γ l x4 x4s x4s_l x4s_c x4s_g x4s_r x4s_k x4s_b fx4s_l fx4s_c fx4s_g fx4s_r fx4s_k fx4s_b 0 0 0 0 0 0 0 sd sp x9 x90 x91 x92 x93 x94 x95 x96 x97 x2s x2s_l x2s_c x2s_g x2s_r x2s_k x2s_b fx2s_l fx2s_c fx2s_g fx2s_r fx2s_k fx2s_b) ⟨by decide, by decide⟩ ⟨by decide, by decide⟩ hl.1 rfl 2 rfl rfl rfl (Nat.le_of_ble_eq_true rfl) [2, 3, 4, 5, 6, 7, 8, 9, 1, 11, 12, 13, 14, 15, 16, 17] [0, 10] rfl rfl rfl rfl (by decide) dX11_lives_56 (fun r w1 H locs hq hw => ?_)
  obtain ⟨ghs_l_691, ghs_c_692, ghs_g_693, ghs_r_694, ghs_k_695, ghs_b_696, dr_697, rfl, rfl, g_698, g_699, g_700, g_701, g_702, g_703⟩ := hq
  have hw : kW γ A [(x, .inr (10, [.ref x0, .ref x1, .ref x2, .ref x3, .ref x4, .ref x5, .ref x6, .ref x7, .ref x8, .ref x9, .ref x10])), (x2, .inr (3, [.ref x2s, .ref x2y, .ref x2q, .int 0, .int 0, .int 0])), (x4, .inr (2, [.ref x4s, .int 0, .int 0, .int 0, .long dr_697])), (x4s, .inr (7, [.ref x4s_l, .ref x4s_c, .ref x4s_g, .ref x4s_r, .ref x4s_k, .ref x4s_b, .int 0, .int 0, .int 0])), (x4s_l, .inl (γ.2.1 0, 5, .inl ghs_l_691)), (x4s_c, .inl (γ.2.1 0, 5, .inl ghs_c_692)), (x4s_g, .inl (γ.2.1 0, 5, .inl ghs_g_693)), (x4s_r, .inl (γ.2.1 1, 5, .inr (.inl ghs_r_694))), (x4s_k, .inl (γ.2.1 0, 40, .inl ghs_k_695)), (x4s_b, .inl (γ.2.1 0, 8, .inl ghs_b_696)), (x2s, .inr (7, [.ref x2s_l, .ref x2s_c, .ref x2s_g, .ref x2s_r, .ref x2s_k, .ref x2s_b, .int 0, .int 0, .int 0])), (x2s_l, .inl (γ.2.1 0, 5, .inl fx2s_l)), (x2s_c, .inl (γ.2.1 0, 5, .inl fx2s_c)), (x2s_g, .inl (γ.2.1 0, 5, .inl fx2s_g)), (x2s_r, .inl (γ.2.1 1, 5, .inr (.inl fx2s_r))), (x2s_k, .inl (γ.2.1 0, 40, .inl fx2s_k)), (x2s_b, .inl (γ.2.1 0, 8, .inl fx2s_b))] s H locs := hw
  refine W.eq (g2 := F0 m 59 ls []) rfl ?_
  have h_704 : ∀ j, j < 5 → ghs_g_693 j = 0 := fun j hj => (g_700 j hj).trans (hz j hj)
  refine lv_iload_n hx hb dX11_lives_59 rfl (lv_at hl 3 rfl) ?_
  refine lv_lookup (off := 28) (tgt := 88) hx hb dX11_lives_60 (by decide) (by decide) (by decide) ?_
  refine lv_aload_n hx hb dX11_lives_88 rfl (lv_at hl 0 rfl) ?_
  refine fg_RX11_37 hC hw 0 rfl rfl dX11_lives_89 ?_
  refine fg_RX11_242 hC hw 2 rfl rfl dX11_lives_92 ?_
  exact k_iret hC hr hlocks hw [] rfl rfl ⟨rfl, rfl⟩ (by decide) (by decide) dX11_lives_95

set_option maxHeartbeats 4000000 in
set_option maxRecDepth 100000 in
theorem c_X11_lives_1 (γ : kΓ) (l : Launch) (x : Nat) (x0 : Nat) (x1 : Nat) (x2 : Nat) (x3 : Nat) (x4 : Nat) (x5 : Nat) (x6 : Nat) (x7 : Nat) (x8 : Nat) (x9 : Nat) (x10 : Nat) (x90 : Nat) (x91 : Nat) (x92 : Nat) (x93 : Nat) (x94 : Nat) (x95 : Nat) (x96 : Nat) (x97 : Nat) (x4s : Nat) (x4s_l : Nat) (x4s_c : Nat) (x4s_g : Nat) (x4s_r : Nat) (x4s_k : Nat) (x4s_b : Nat) (fx4s_l : Nat → Int32) (fx4s_c : Nat → Int32) (fx4s_g : Nat → Int32) (fx4s_r : Nat → Int64) (fx4s_k : Nat → Int32) (fx4s_b : Nat → Int32) (x2s : Nat) (x2y : Nat) (x2q : Nat) (x2s_l : Nat) (x2s_c : Nat) (x2s_g : Nat) (x2s_r : Nat) (x2s_k : Nat) (x2s_b : Nat) (fx2s_l : Nat → Int32) (fx2s_c : Nat → Int32) (fx2s_g : Nat → Int32) (fx2s_r : Nat → Int64) (fx2s_k : Nat → Int32) (fx2s_b : Nat → Int32) (sd : Int32) (sp : Int32) (hs0 : ¬ sd < 0) (hs1 : ¬ 9999 < sd) (hs2 : ¬ sp < 1) (hs3 : ¬ 99 < sp) (hz : ∀ j, j < 5 → fx2s_g j = 0) : kM γ l yX11_lives cX11_lives 4 ((some .int)) ({ frames := 3, cells := 0, slots := 0, locals := 128 } : Room) [.ref x, .int sd, .int sp, .int 1] [(x, .inr (10, [.ref x0, .ref x1, .ref x2, .ref x3, .ref x4, .ref x5, .ref x6, .ref x7, .ref x8, .ref x9, .ref x10])), (x9, .inr (0, [.ref x90, .ref x91, .ref x92, .ref x93, .ref x94, .ref x95, .ref x96, .ref x97, .int 0, .int 0, .int 10, .int 10, .int 3, .int 0, .int 0, .int 0, .int 0, .int 0, .int 0])), (x4, .inr (2, [.ref x4s, .int 0, .int 0, .int 0, .long 0])), (x4s, .inr (7, [.ref x4s_l, .ref x4s_c, .ref x4s_g, .ref x4s_r, .ref x4s_k, .ref x4s_b, .int 0, .int 0, .int 0])), (x4s_l, .inl (γ.2.1 0, 5, .inl fx4s_l)), (x4s_c, .inl (γ.2.1 0, 5, .inl fx4s_c)), (x4s_g, .inl (γ.2.1 0, 5, .inl fx4s_g)), (x4s_r, .inl (γ.2.1 1, 5, .inr (.inl fx4s_r))), (x4s_k, .inl (γ.2.1 0, 40, .inl fx4s_k)), (x4s_b, .inl (γ.2.1 0, 8, .inl fx4s_b)), (x2, .inr (3, [.ref x2s, .ref x2y, .ref x2q, .int 0, .int 0, .int 0])), (x2s, .inr (7, [.ref x2s_l, .ref x2s_c, .ref x2s_g, .ref x2s_r, .ref x2s_k, .ref x2s_b, .int 0, .int 0, .int 0])), (x2s_l, .inl (γ.2.1 0, 5, .inl fx2s_l)), (x2s_c, .inl (γ.2.1 0, 5, .inl fx2s_c)), (x2s_g, .inl (γ.2.1 0, 5, .inl fx2s_g)), (x2s_r, .inl (γ.2.1 1, 5, .inr (.inl fx2s_r))), (x2s_k, .inl (γ.2.1 0, 40, .inl fx2s_k)), (x2s_b, .inl (γ.2.1 0, 8, .inl fx2s_b))] (fun r w1 => r = some (.int 0) ∧ w1 = []) := by
  refine k_ofW (by decide) (Nat.le_of_ble_eq_true rfl) ?_
  intro p e s m below meth c A ls hC hr hlocks hname hw hl
  have hx := hC.1
  have hb := hC.2.1
  have hl : lv_has ls 4 [(0, .ref x), (1, .int sd), (2, .int sp), (3, .int 1)] := hl
  refine lv_iload_n hx hb dX11_lives_0 rfl (lv_at hl 1 rfl) ?_
  refine lv_if_lt (tgt := 31) hx hb dX11_lives_1 (by decide) (fun h => absurd h hs0) (fun _ => ?_)
  refine lv_iload_n hx hb dX11_lives_4 rfl (lv_at hl 1 rfl) ?_
  refine lv_sipush (v := 9999) hx hb dX11_lives_5 (by decide) ?_
  refine lv_icmp_gt (tgt := 31) hx hb dX11_lives_8 (by decide) (fun h => absurd h hs1) (fun _ => ?_)
  refine lv_iload_n hx hb dX11_lives_11 rfl (lv_at hl 2 rfl) ?_
  refine lv_iconst (v := 1) hx hb dX11_lives_12 (by decide) ?_
  refine lv_icmp_lt (tgt := 31) hx hb dX11_lives_13 (by decide) (fun h => absurd h hs2) (fun _ => ?_)
  refine lv_iload_n hx hb dX11_lives_16 rfl (lv_at hl 2 rfl) ?_
  refine lv_bipush (v := 99) hx hb dX11_lives_17 (by decide) ?_
  refine lv_icmp_gt (tgt := 31) hx hb dX11_lives_19 (by decide) (fun h => absurd h hs3) (fun _ => ?_)
  refine lv_iload_n hx hb dX11_lives_22 rfl (lv_at hl 3 rfl) ?_
  refine lv_if_lt (tgt := 31) hx hb dX11_lives_23 (by decide) (fun h => absurd h (by decide)) (fun _ => ?_)
  refine lv_iload_n hx hb dX11_lives_26 rfl (lv_at hl 3 rfl) ?_
  refine lv_iconst (v := 2) hx hb dX11_lives_27 (by decide) ?_
  refine lv_icmp_le (tgt := 39) hx hb dX11_lives_28 (by decide) (fun _ => ?_) (fun h => absurd (by decide) h)
  refine lv_aload_n hx hb dX11_lives_39 rfl (lv_at hl 0 rfl) ?_
  refine fg_RX11_37 hC hw 0 rfl rfl dX11_lives_40 ?_
  refine lv_aload_n hx hb dX11_lives_43 rfl (lv_at hl 0 rfl) ?_
  refine fg_RX11_65 hC hw 0 rfl rfl dX11_lives_44 ?_
  refine lv_aload_n hx hb dX11_lives_47 rfl (lv_at hl 0 rfl) ?_
  refine fg_RX11_26 hC hw 0 rfl rfl dX11_lives_48 ?_
  refine fg_RX11_131 hC hw 10 rfl rfl dX11_lives_51 ?_
  refine lv_iload_n hx hb dX11_lives_54 rfl (lv_at hl 1 rfl) ?_
  refine lv_iload_n hx hb dX11_lives_55 rfl (lv_at hl 2 rfl) ?_
  refine k_V (wr := [(x, .inr (10, [.ref x0, .ref x1, .ref x2, .ref x3, .ref x4, .ref x5, .ref x6, .ref x7, .ref x8, .ref x9, .ref x10])), (x2, .inr (3, [.ref x2s, .ref x2y, .ref x2q, .int 0, .int 0, .int 0]))]) 4 gw_1169 gw_1170 gw_1171 gw_9 gw_1172 hd_X2_liveByDraws hC hw (c_X2_liveByDraws γ l x4 x4s x4s_l x4s_c x4s_g x4s_r x4s_k x4s_b fx4s_l fx4s_c fx4s_g fx4s_r fx4s_k fx4s_b 0 0 0 0 0 0 0 sd sp x9 x90 x91 x92 x93 x94 x95 x96 x97 x2s x2s_l x2s_c x2s_g x2s_r x2s_k x2s_b fx2s_l fx2s_c fx2s_g fx2s_r fx2s_k fx2s_b) ⟨by decide, by decide⟩ ⟨by decide, by decide⟩ hl.1 rfl 2 rfl rfl rfl (Nat.le_of_ble_eq_true rfl) [2, 3, 4, 5, 6, 7, 8, 9, 1, 11, 12, 13, 14, 15, 16, 17] [0, 10] rfl rfl rfl rfl (by decide) dX11_lives_56 (fun r w1 H locs hq hw => ?_)
  obtain ⟨ghs_l_705, ghs_c_706, ghs_g_707, ghs_r_708, ghs_k_709, ghs_b_710, dr_711, rfl, rfl, g_712, g_713, g_714, g_715, g_716, g_717⟩ := hq
  have hw : kW γ A [(x, .inr (10, [.ref x0, .ref x1, .ref x2, .ref x3, .ref x4, .ref x5, .ref x6, .ref x7, .ref x8, .ref x9, .ref x10])), (x2, .inr (3, [.ref x2s, .ref x2y, .ref x2q, .int 0, .int 0, .int 0])), (x4, .inr (2, [.ref x4s, .int 0, .int 0, .int 0, .long dr_711])), (x4s, .inr (7, [.ref x4s_l, .ref x4s_c, .ref x4s_g, .ref x4s_r, .ref x4s_k, .ref x4s_b, .int 0, .int 0, .int 0])), (x4s_l, .inl (γ.2.1 0, 5, .inl ghs_l_705)), (x4s_c, .inl (γ.2.1 0, 5, .inl ghs_c_706)), (x4s_g, .inl (γ.2.1 0, 5, .inl ghs_g_707)), (x4s_r, .inl (γ.2.1 1, 5, .inr (.inl ghs_r_708))), (x4s_k, .inl (γ.2.1 0, 40, .inl ghs_k_709)), (x4s_b, .inl (γ.2.1 0, 8, .inl ghs_b_710)), (x2s, .inr (7, [.ref x2s_l, .ref x2s_c, .ref x2s_g, .ref x2s_r, .ref x2s_k, .ref x2s_b, .int 0, .int 0, .int 0])), (x2s_l, .inl (γ.2.1 0, 5, .inl fx2s_l)), (x2s_c, .inl (γ.2.1 0, 5, .inl fx2s_c)), (x2s_g, .inl (γ.2.1 0, 5, .inl fx2s_g)), (x2s_r, .inl (γ.2.1 1, 5, .inr (.inl fx2s_r))), (x2s_k, .inl (γ.2.1 0, 40, .inl fx2s_k)), (x2s_b, .inl (γ.2.1 0, 8, .inl fx2s_b))] s H locs := hw
  refine W.eq (g2 := F0 m 59 ls []) rfl ?_
  have h_718 : ∀ j, j < 5 → ghs_g_707 j = 0 := fun j hj => (g_714 j hj).trans (hz j hj)
  refine lv_iload_n hx hb dX11_lives_59 rfl (lv_at hl 3 rfl) ?_
  refine lv_lookup (off := 36) (tgt := 96) hx hb dX11_lives_60 (by decide) (by decide) (by decide) ?_
  refine lv_aload_n hx hb dX11_lives_96 rfl (lv_at hl 0 rfl) ?_
  refine fg_RX11_37 hC hw 0 rfl rfl dX11_lives_97 ?_
  refine fg_RX11_238 hC hw 2 rfl rfl dX11_lives_100 ?_
  refine fg_RX11_176 hC hw 3 rfl rfl dX11_lives_103 ?_
  exact k_iret hC hr hlocks hw [] rfl rfl ⟨rfl, rfl⟩ (by decide) (by decide) dX11_lives_106

set_option maxHeartbeats 4000000 in
set_option maxRecDepth 100000 in
theorem c_X11_lives_2 (γ : kΓ) (l : Launch) (x : Nat) (x0 : Nat) (x1 : Nat) (x2 : Nat) (x3 : Nat) (x4 : Nat) (x5 : Nat) (x6 : Nat) (x7 : Nat) (x8 : Nat) (x9 : Nat) (x10 : Nat) (x90 : Nat) (x91 : Nat) (x92 : Nat) (x93 : Nat) (x94 : Nat) (x95 : Nat) (x96 : Nat) (x97 : Nat) (x4s : Nat) (x4s_l : Nat) (x4s_c : Nat) (x4s_g : Nat) (x4s_r : Nat) (x4s_k : Nat) (x4s_b : Nat) (fx4s_l : Nat → Int32) (fx4s_c : Nat → Int32) (fx4s_g : Nat → Int32) (fx4s_r : Nat → Int64) (fx4s_k : Nat → Int32) (fx4s_b : Nat → Int32) (x2s : Nat) (x2y : Nat) (x2q : Nat) (x2s_l : Nat) (x2s_c : Nat) (x2s_g : Nat) (x2s_r : Nat) (x2s_k : Nat) (x2s_b : Nat) (fx2s_l : Nat → Int32) (fx2s_c : Nat → Int32) (fx2s_g : Nat → Int32) (fx2s_r : Nat → Int64) (fx2s_k : Nat → Int32) (fx2s_b : Nat → Int32) (sd : Int32) (sp : Int32) (hs0 : ¬ sd < 0) (hs1 : ¬ 9999 < sd) (hs2 : ¬ sp < 1) (hs3 : ¬ 99 < sp) (hz : ∀ j, j < 5 → fx2s_g j = 0) : kM γ l yX11_lives cX11_lives 4 ((some .int)) ({ frames := 3, cells := 0, slots := 0, locals := 128 } : Room) [.ref x, .int sd, .int sp, .int 2] [(x, .inr (10, [.ref x0, .ref x1, .ref x2, .ref x3, .ref x4, .ref x5, .ref x6, .ref x7, .ref x8, .ref x9, .ref x10])), (x9, .inr (0, [.ref x90, .ref x91, .ref x92, .ref x93, .ref x94, .ref x95, .ref x96, .ref x97, .int 0, .int 0, .int 10, .int 10, .int 3, .int 0, .int 0, .int 0, .int 0, .int 0, .int 0])), (x4, .inr (2, [.ref x4s, .int 0, .int 0, .int 0, .long 0])), (x4s, .inr (7, [.ref x4s_l, .ref x4s_c, .ref x4s_g, .ref x4s_r, .ref x4s_k, .ref x4s_b, .int 0, .int 0, .int 0])), (x4s_l, .inl (γ.2.1 0, 5, .inl fx4s_l)), (x4s_c, .inl (γ.2.1 0, 5, .inl fx4s_c)), (x4s_g, .inl (γ.2.1 0, 5, .inl fx4s_g)), (x4s_r, .inl (γ.2.1 1, 5, .inr (.inl fx4s_r))), (x4s_k, .inl (γ.2.1 0, 40, .inl fx4s_k)), (x4s_b, .inl (γ.2.1 0, 8, .inl fx4s_b)), (x2, .inr (3, [.ref x2s, .ref x2y, .ref x2q, .int 0, .int 0, .int 0])), (x2s, .inr (7, [.ref x2s_l, .ref x2s_c, .ref x2s_g, .ref x2s_r, .ref x2s_k, .ref x2s_b, .int 0, .int 0, .int 0])), (x2s_l, .inl (γ.2.1 0, 5, .inl fx2s_l)), (x2s_c, .inl (γ.2.1 0, 5, .inl fx2s_c)), (x2s_g, .inl (γ.2.1 0, 5, .inl fx2s_g)), (x2s_r, .inl (γ.2.1 1, 5, .inr (.inl fx2s_r))), (x2s_k, .inl (γ.2.1 0, 40, .inl fx2s_k)), (x2s_b, .inl (γ.2.1 0, 8, .inl fx2s_b))] (fun r w1 => r = some (.int 0) ∧ w1 = []) := by
  refine k_ofW (by decide) (Nat.le_of_ble_eq_true rfl) ?_
  intro p e s m below meth c A ls hC hr hlocks hname hw hl
  have hx := hC.1
  have hb := hC.2.1
  have hl : lv_has ls 4 [(0, .ref x), (1, .int sd), (2, .int sp), (3, .int 2)] := hl
  refine lv_iload_n hx hb dX11_lives_0 rfl (lv_at hl 1 rfl) ?_
  refine lv_if_lt (tgt := 31) hx hb dX11_lives_1 (by decide) (fun h => absurd h hs0) (fun _ => ?_)
  refine lv_iload_n hx hb dX11_lives_4 rfl (lv_at hl 1 rfl) ?_
  refine lv_sipush (v := 9999) hx hb dX11_lives_5 (by decide) ?_
  refine lv_icmp_gt (tgt := 31) hx hb dX11_lives_8 (by decide) (fun h => absurd h hs1) (fun _ => ?_)
  refine lv_iload_n hx hb dX11_lives_11 rfl (lv_at hl 2 rfl) ?_
  refine lv_iconst (v := 1) hx hb dX11_lives_12 (by decide) ?_
  refine lv_icmp_lt (tgt := 31) hx hb dX11_lives_13 (by decide) (fun h => absurd h hs2) (fun _ => ?_)
  refine lv_iload_n hx hb dX11_lives_16 rfl (lv_at hl 2 rfl) ?_
  refine lv_bipush (v := 99) hx hb dX11_lives_17 (by decide) ?_
  refine lv_icmp_gt (tgt := 31) hx hb dX11_lives_19 (by decide) (fun h => absurd h hs3) (fun _ => ?_)
  refine lv_iload_n hx hb dX11_lives_22 rfl (lv_at hl 3 rfl) ?_
  refine lv_if_lt (tgt := 31) hx hb dX11_lives_23 (by decide) (fun h => absurd h (by decide)) (fun _ => ?_)
  refine lv_iload_n hx hb dX11_lives_26 rfl (lv_at hl 3 rfl) ?_
  refine lv_iconst (v := 2) hx hb dX11_lives_27 (by decide) ?_
  refine lv_icmp_le (tgt := 39) hx hb dX11_lives_28 (by decide) (fun _ => ?_) (fun h => absurd (by decide) h)
  refine lv_aload_n hx hb dX11_lives_39 rfl (lv_at hl 0 rfl) ?_
  refine fg_RX11_37 hC hw 0 rfl rfl dX11_lives_40 ?_
  refine lv_aload_n hx hb dX11_lives_43 rfl (lv_at hl 0 rfl) ?_
  refine fg_RX11_65 hC hw 0 rfl rfl dX11_lives_44 ?_
  refine lv_aload_n hx hb dX11_lives_47 rfl (lv_at hl 0 rfl) ?_
  refine fg_RX11_26 hC hw 0 rfl rfl dX11_lives_48 ?_
  refine fg_RX11_131 hC hw 10 rfl rfl dX11_lives_51 ?_
  refine lv_iload_n hx hb dX11_lives_54 rfl (lv_at hl 1 rfl) ?_
  refine lv_iload_n hx hb dX11_lives_55 rfl (lv_at hl 2 rfl) ?_
  refine k_V (wr := [(x, .inr (10, [.ref x0, .ref x1, .ref x2, .ref x3, .ref x4, .ref x5, .ref x6, .ref x7, .ref x8, .ref x9, .ref x10])), (x2, .inr (3, [.ref x2s, .ref x2y, .ref x2q, .int 0, .int 0, .int 0]))]) 4 gw_1169 gw_1170 gw_1171 gw_9 gw_1172 hd_X2_liveByDraws hC hw (c_X2_liveByDraws γ l x4 x4s x4s_l x4s_c x4s_g x4s_r x4s_k x4s_b fx4s_l fx4s_c fx4s_g fx4s_r fx4s_k fx4s_b 0 0 0 0 0 0 0 sd sp x9 x90 x91 x92 x93 x94 x95 x96 x97 x2s x2s_l x2s_c x2s_g x2s_r x2s_k x2s_b fx2s_l fx2s_c fx2s_g fx2s_r fx2s_k fx2s_b) ⟨by decide, by decide⟩ ⟨by decide, by decide⟩ hl.1 rfl 2 rfl rfl rfl (Nat.le_of_ble_eq_true rfl) [2, 3, 4, 5, 6, 7, 8, 9, 1, 11, 12, 13, 14, 15, 16, 17] [0, 10] rfl rfl rfl rfl (by decide) dX11_lives_56 (fun r w1 H locs hq hw => ?_)
  obtain ⟨ghs_l_719, ghs_c_720, ghs_g_721, ghs_r_722, ghs_k_723, ghs_b_724, dr_725, rfl, rfl, g_726, g_727, g_728, g_729, g_730, g_731⟩ := hq
  have hw : kW γ A [(x, .inr (10, [.ref x0, .ref x1, .ref x2, .ref x3, .ref x4, .ref x5, .ref x6, .ref x7, .ref x8, .ref x9, .ref x10])), (x2, .inr (3, [.ref x2s, .ref x2y, .ref x2q, .int 0, .int 0, .int 0])), (x4, .inr (2, [.ref x4s, .int 0, .int 0, .int 0, .long dr_725])), (x4s, .inr (7, [.ref x4s_l, .ref x4s_c, .ref x4s_g, .ref x4s_r, .ref x4s_k, .ref x4s_b, .int 0, .int 0, .int 0])), (x4s_l, .inl (γ.2.1 0, 5, .inl ghs_l_719)), (x4s_c, .inl (γ.2.1 0, 5, .inl ghs_c_720)), (x4s_g, .inl (γ.2.1 0, 5, .inl ghs_g_721)), (x4s_r, .inl (γ.2.1 1, 5, .inr (.inl ghs_r_722))), (x4s_k, .inl (γ.2.1 0, 40, .inl ghs_k_723)), (x4s_b, .inl (γ.2.1 0, 8, .inl ghs_b_724)), (x2s, .inr (7, [.ref x2s_l, .ref x2s_c, .ref x2s_g, .ref x2s_r, .ref x2s_k, .ref x2s_b, .int 0, .int 0, .int 0])), (x2s_l, .inl (γ.2.1 0, 5, .inl fx2s_l)), (x2s_c, .inl (γ.2.1 0, 5, .inl fx2s_c)), (x2s_g, .inl (γ.2.1 0, 5, .inl fx2s_g)), (x2s_r, .inl (γ.2.1 1, 5, .inr (.inl fx2s_r))), (x2s_k, .inl (γ.2.1 0, 40, .inl fx2s_k)), (x2s_b, .inl (γ.2.1 0, 8, .inl fx2s_b))] s H locs := hw
  refine W.eq (g2 := F0 m 59 ls []) rfl ?_
  have h_732 : ∀ j, j < 5 → ghs_g_721 j = 0 := fun j hj => (g_728 j hj).trans (hz j hj)
  refine lv_iload_n hx hb dX11_lives_59 rfl (lv_at hl 3 rfl) ?_
  refine lv_lookup (off := 47) (tgt := 107) hx hb dX11_lives_60 (by decide) (by decide) (by decide) ?_
  refine lv_aload_n hx hb dX11_lives_107 rfl (lv_at hl 0 rfl) ?_
  refine fg_RX11_37 hC hw 0 rfl rfl dX11_lives_108 ?_
  refine fg_RX11_238 hC hw 2 rfl rfl dX11_lives_111 ?_
  refine k_V (wr := [(x, .inr (10, [.ref x0, .ref x1, .ref x2, .ref x3, .ref x4, .ref x5, .ref x6, .ref x7, .ref x8, .ref x9, .ref x10])), (x2, .inr (3, [.ref x2s, .ref x2y, .ref x2q, .int 0, .int 0, .int 0])), (x4, .inr (2, [.ref x4s, .int 0, .int 0, .int 0, .long dr_725])), (x4s_l, .inl (γ.2.1 0, 5, .inl ghs_l_719)), (x4s_c, .inl (γ.2.1 0, 5, .inl ghs_c_720)), (x4s_r, .inl (γ.2.1 1, 5, .inr (.inl ghs_r_722))), (x4s_k, .inl (γ.2.1 0, 40, .inl ghs_k_723)), (x4s_b, .inl (γ.2.1 0, 8, .inl ghs_b_724)), (x2s, .inr (7, [.ref x2s_l, .ref x2s_c, .ref x2s_g, .ref x2s_r, .ref x2s_k, .ref x2s_b, .int 0, .int 0, .int 0])), (x2s_l, .inl (γ.2.1 0, 5, .inl fx2s_l)), (x2s_c, .inl (γ.2.1 0, 5, .inl fx2s_c)), (x2s_g, .inl (γ.2.1 0, 5, .inl fx2s_g)), (x2s_r, .inl (γ.2.1 1, 5, .inr (.inl fx2s_r))), (x2s_k, .inl (γ.2.1 0, 40, .inl fx2s_k)), (x2s_b, .inl (γ.2.1 0, 8, .inl fx2s_b))]) 0 gw_1090 gw_1091 gw_1092 gw_6 gw_1093 hd_X7_gainedByAll hC hw (c_X7_gainedByAll γ l x4s x4s_l x4s_c x4s_g x4s_r x4s_k x4s_b ghs_g_721 0 0 0 h_732) ⟨by decide, by decide⟩ ⟨by decide, by decide⟩ hl.1 rfl 3 rfl rfl rfl (Nat.le_of_ble_eq_true rfl) [3, 6] [0, 1, 2, 4, 5, 7, 8, 9, 10, 11, 12, 13, 14, 15, 16] rfl rfl rfl rfl (by decide) dX11_lives_114 (fun r w1 H locs hq hw => ?_)
  obtain ⟨rfl, rfl⟩ := hq
  have hw : kW γ A [(x, .inr (10, [.ref x0, .ref x1, .ref x2, .ref x3, .ref x4, .ref x5, .ref x6, .ref x7, .ref x8, .ref x9, .ref x10])), (x2, .inr (3, [.ref x2s, .ref x2y, .ref x2q, .int 0, .int 0, .int 0])), (x4, .inr (2, [.ref x4s, .int 0, .int 0, .int 0, .long dr_725])), (x4s_l, .inl (γ.2.1 0, 5, .inl ghs_l_719)), (x4s_c, .inl (γ.2.1 0, 5, .inl ghs_c_720)), (x4s_r, .inl (γ.2.1 1, 5, .inr (.inl ghs_r_722))), (x4s_k, .inl (γ.2.1 0, 40, .inl ghs_k_723)), (x4s_b, .inl (γ.2.1 0, 8, .inl ghs_b_724)), (x2s, .inr (7, [.ref x2s_l, .ref x2s_c, .ref x2s_g, .ref x2s_r, .ref x2s_k, .ref x2s_b, .int 0, .int 0, .int 0])), (x2s_l, .inl (γ.2.1 0, 5, .inl fx2s_l)), (x2s_c, .inl (γ.2.1 0, 5, .inl fx2s_c)), (x2s_g, .inl (γ.2.1 0, 5, .inl fx2s_g)), (x2s_r, .inl (γ.2.1 1, 5, .inr (.inl fx2s_r))), (x2s_k, .inl (γ.2.1 0, 40, .inl fx2s_k)), (x2s_b, .inl (γ.2.1 0, 8, .inl fx2s_b)), (x4s, .inr (7, [.ref x4s_l, .ref x4s_c, .ref x4s_g, .ref x4s_r, .ref x4s_k, .ref x4s_b, .int 0, .int 0, .int 0])), (x4s_g, .inl (γ.2.1 0, 5, .inl ghs_g_721))] s H locs := hw
  refine W.eq (g2 := F0 m 117 ls [.int 0]) rfl ?_
  refine lv_aload_n hx hb dX11_lives_117 rfl (lv_at hl 0 rfl) ?_
  refine fg_RX11_26 hC hw 0 rfl rfl dX11_lives_118 ?_
  refine fg_RX11_131 hC hw 1 rfl rfl dX11_lives_121 ?_
  refine k_V (wr := [(x, .inr (10, [.ref x0, .ref x1, .ref x2, .ref x3, .ref x4, .ref x5, .ref x6, .ref x7, .ref x8, .ref x9, .ref x10])), (x2, .inr (3, [.ref x2s, .ref x2y, .ref x2q, .int 0, .int 0, .int 0])), (x4, .inr (2, [.ref x4s, .int 0, .int 0, .int 0, .long dr_725])), (x4s_l, .inl (γ.2.1 0, 5, .inl ghs_l_719)), (x4s_c, .inl (γ.2.1 0, 5, .inl ghs_c_720)), (x4s_r, .inl (γ.2.1 1, 5, .inr (.inl ghs_r_722))), (x4s_k, .inl (γ.2.1 0, 40, .inl ghs_k_723)), (x4s_b, .inl (γ.2.1 0, 8, .inl ghs_b_724)), (x2s_l, .inl (γ.2.1 0, 5, .inl fx2s_l)), (x2s_c, .inl (γ.2.1 0, 5, .inl fx2s_c)), (x2s_r, .inl (γ.2.1 1, 5, .inr (.inl fx2s_r))), (x2s_k, .inl (γ.2.1 0, 40, .inl fx2s_k)), (x2s_b, .inl (γ.2.1 0, 8, .inl fx2s_b)), (x4s, .inr (7, [.ref x4s_l, .ref x4s_c, .ref x4s_g, .ref x4s_r, .ref x4s_k, .ref x4s_b, .int 0, .int 0, .int 0])), (x4s_g, .inl (γ.2.1 0, 5, .inl ghs_g_721))]) 0 gw_1090 gw_1091 gw_1092 gw_6 gw_1093 hd_X7_gainedByAll hC hw (c_X7_gainedByAll γ l x2s x2s_l x2s_c x2s_g x2s_r x2s_k x2s_b fx2s_g 0 0 0 hz) ⟨by decide, by decide⟩ ⟨by decide, by decide⟩ hl.1 rfl 8 rfl rfl rfl (Nat.le_of_ble_eq_true rfl) [8, 11] [0, 1, 2, 3, 4, 5, 6, 7, 9, 10, 12, 13, 14, 15, 16] rfl rfl rfl rfl (by decide) dX11_lives_124 (fun r w1 H locs hq hw => ?_)
  obtain ⟨rfl, rfl⟩ := hq
  have hw : kW γ A [(x, .inr (10, [.ref x0, .ref x1, .ref x2, .ref x3, .ref x4, .ref x5, .ref x6, .ref x7, .ref x8, .ref x9, .ref x10])), (x2, .inr (3, [.ref x2s, .ref x2y, .ref x2q, .int 0, .int 0, .int 0])), (x4, .inr (2, [.ref x4s, .int 0, .int 0, .int 0, .long dr_725])), (x4s_l, .inl (γ.2.1 0, 5, .inl ghs_l_719)), (x4s_c, .inl (γ.2.1 0, 5, .inl ghs_c_720)), (x4s_r, .inl (γ.2.1 1, 5, .inr (.inl ghs_r_722))), (x4s_k, .inl (γ.2.1 0, 40, .inl ghs_k_723)), (x4s_b, .inl (γ.2.1 0, 8, .inl ghs_b_724)), (x2s_l, .inl (γ.2.1 0, 5, .inl fx2s_l)), (x2s_c, .inl (γ.2.1 0, 5, .inl fx2s_c)), (x2s_r, .inl (γ.2.1 1, 5, .inr (.inl fx2s_r))), (x2s_k, .inl (γ.2.1 0, 40, .inl fx2s_k)), (x2s_b, .inl (γ.2.1 0, 8, .inl fx2s_b)), (x4s, .inr (7, [.ref x4s_l, .ref x4s_c, .ref x4s_g, .ref x4s_r, .ref x4s_k, .ref x4s_b, .int 0, .int 0, .int 0])), (x4s_g, .inl (γ.2.1 0, 5, .inl ghs_g_721)), (x2s, .inr (7, [.ref x2s_l, .ref x2s_c, .ref x2s_g, .ref x2s_r, .ref x2s_k, .ref x2s_b, .int 0, .int 0, .int 0])), (x2s_g, .inl (γ.2.1 0, 5, .inl fx2s_g))] s H locs := hw
  refine W.eq (g2 := F0 m 127 ls [.int 0, .int 0]) rfl ?_
  refine lv_isub hx hb dX11_lives_127 ?_
  refine lv_topi (fun x_733 ex_733 => ?_)
  obtain rfl : x_733 = 0 := ex_733.trans (by decide)
  exact k_iret hC hr hlocks hw [] rfl rfl ⟨rfl, rfl⟩ (by decide) (by decide) dX11_lives_128


theorem dX12_readsThought_0 : decode cX12_readsThought 0 = .ok (.bipush 8, 2) := by decide +kernel
theorem dX12_readsThought_2 : decode cX12_readsThought 2 = .ok (.aload_n 0, 1) := by decide +kernel
theorem dX12_readsThought_3 : decode cX12_readsThought 3 = .ok (.getfield 13, 3) := by decide +kernel
theorem dX12_readsThought_6 : decode cX12_readsThought 6 = .ok (.iconst 5, 1) := by decide +kernel
theorem dX12_readsThought_7 : decode cX12_readsThought 7 = .ok (.iaload, 1) := by decide +kernel
theorem dX12_readsThought_8 : decode cX12_readsThought 8 = .ok (.iadd, 1) := by decide +kernel
theorem dX12_readsThought_9 : decode cX12_readsThought 9 = .ok (.istore_n 1, 1) := by decide +kernel
theorem dX12_readsThought_10 : decode cX12_readsThought 10 = .ok (.iload_n 1, 1) := by decide +kernel
theorem dX12_readsThought_11 : decode cX12_readsThought 11 = .ok (.bipush 16, 2) := by decide +kernel
theorem dX12_readsThought_13 : decode cX12_readsThought 13 = .ok (.if_icmp .ne 9, 3) := by decide +kernel
theorem dX12_readsThought_16 : decode cX12_readsThought 16 = .ok (.aload_n 0, 1) := by decide +kernel
theorem dX12_readsThought_17 : decode cX12_readsThought 17 = .ok (.iconst 5, 1) := by decide +kernel
theorem dX12_readsThought_18 : decode cX12_readsThought 18 = .ok (.invokevirtual 206, 3) := by decide +kernel
theorem dX12_readsThought_21 : decode cX12_readsThought 21 = .ok (.ireturn, 1) := by decide +kernel
theorem dX12_readsThought_22 : decode cX12_readsThought 22 = .ok (.aload_n 0, 1) := by decide +kernel
theorem dX12_readsThought_23 : decode cX12_readsThought 23 = .ok (.invokevirtual 212, 3) := by decide +kernel
theorem dX12_readsThought_26 : decode cX12_readsThought 26 = .ok (.aload_n 0, 1) := by decide +kernel
theorem dX12_readsThought_27 : decode cX12_readsThought 27 = .ok (.invokevirtual 286, 3) := by decide +kernel
theorem dX12_readsThought_30 : decode cX12_readsThought 30 = .ok (.ifCond .eq 16, 3) := by decide +kernel
theorem dX12_readsThought_33 : decode cX12_readsThought 33 = .ok (.aload_n 0, 1) := by decide +kernel
theorem dX12_readsThought_34 : decode cX12_readsThought 34 = .ok (.ldc2_w 230, 3) := by decide +kernel
theorem dX12_readsThought_37 : decode cX12_readsThought 37 = .ok (.iconst 0, 1) := by decide +kernel
theorem dX12_readsThought_38 : decode cX12_readsThought 38 = .ok (.bipush 20, 2) := by decide +kernel
theorem dX12_readsThought_40 : decode cX12_readsThought 40 = .ok (.invokevirtual 289, 3) := by decide +kernel
theorem dX12_readsThought_43 : decode cX12_readsThought 43 = .ok (.ifCond .ne 5, 3) := by decide +kernel
theorem dX12_readsThought_46 : decode cX12_readsThought 46 = .ok (.iconst 0, 1) := by decide +kernel
theorem dX12_readsThought_47 : decode cX12_readsThought 47 = .ok (.ireturn, 1) := by decide +kernel
theorem dX12_readsThought_48 : decode cX12_readsThought 48 = .ok (.aload_n 0, 1) := by decide +kernel
theorem dX12_readsThought_49 : decode cX12_readsThought 49 = .ok (.getfield 23, 3) := by decide +kernel
theorem dX12_readsThought_52 : decode cX12_readsThought 52 = .ok (.iload_n 1, 1) := by decide +kernel
theorem dX12_readsThought_53 : decode cX12_readsThought 53 = .ok (.aload_n 0, 1) := by decide +kernel
theorem dX12_readsThought_54 : decode cX12_readsThought 54 = .ok (.getfield 266, 3) := by decide +kernel
theorem dX12_readsThought_57 : decode cX12_readsThought 57 = .ok (.iastore, 1) := by decide +kernel
theorem dX12_readsThought_58 : decode cX12_readsThought 58 = .ok (.aload_n 0, 1) := by decide +kernel
theorem dX12_readsThought_59 : decode cX12_readsThought 59 = .ok (.ldc2_w 232, 3) := by decide +kernel
theorem dX12_readsThought_62 : decode cX12_readsThought 62 = .ok (.iconst 0, 1) := by decide +kernel
theorem dX12_readsThought_63 : decode cX12_readsThought 63 = .ok (.bipush 6, 2) := by decide +kernel
theorem dX12_readsThought_65 : decode cX12_readsThought 65 = .ok (.invokevirtual 289, 3) := by decide +kernel
theorem dX12_readsThought_68 : decode cX12_readsThought 68 = .ok (.ifCond .ne 5, 3) := by decide +kernel
theorem dX12_readsThought_71 : decode cX12_readsThought 71 = .ok (.iconst 0, 1) := by decide +kernel
theorem dX12_readsThought_72 : decode cX12_readsThought 72 = .ok (.ireturn, 1) := by decide +kernel
theorem dX12_readsThought_73 : decode cX12_readsThought 73 = .ok (.aload_n 0, 1) := by decide +kernel
theorem dX12_readsThought_74 : decode cX12_readsThought 74 = .ok (.getfield 26, 3) := by decide +kernel
theorem dX12_readsThought_77 : decode cX12_readsThought 77 = .ok (.iload_n 1, 1) := by decide +kernel
theorem dX12_readsThought_78 : decode cX12_readsThought 78 = .ok (.aload_n 0, 1) := by decide +kernel
theorem dX12_readsThought_79 : decode cX12_readsThought 79 = .ok (.getfield 266, 3) := by decide +kernel
theorem dX12_readsThought_82 : decode cX12_readsThought 82 = .ok (.iastore, 1) := by decide +kernel
theorem dX12_readsThought_83 : decode cX12_readsThought 83 = .ok (.aload_n 0, 1) := by decide +kernel
theorem dX12_readsThought_84 : decode cX12_readsThought 84 = .ok (.getfield 29, 3) := by decide +kernel
theorem dX12_readsThought_87 : decode cX12_readsThought 87 = .ok (.iload_n 1, 1) := by decide +kernel
theorem dX12_readsThought_88 : decode cX12_readsThought 88 = .ok (.iconst 0, 1) := by decide +kernel
theorem dX12_readsThought_89 : decode cX12_readsThought 89 = .ok (.iastore, 1) := by decide +kernel
theorem dX12_readsThought_90 : decode cX12_readsThought 90 = .ok (.aload_n 0, 1) := by decide +kernel
theorem dX12_readsThought_91 : decode cX12_readsThought 91 = .ok (.getfield 16, 3) := by decide +kernel
theorem dX12_readsThought_94 : decode cX12_readsThought 94 = .ok (.iload_n 1, 1) := by decide +kernel
theorem dX12_readsThought_95 : decode cX12_readsThought 95 = .ok (.aload_n 0, 1) := by decide +kernel
theorem dX12_readsThought_96 : decode cX12_readsThought 96 = .ok (.getfield 283, 3) := by decide +kernel
theorem dX12_readsThought_99 : decode cX12_readsThought 99 = .ok (.lastore, 1) := by decide +kernel
theorem dX12_readsThought_100 : decode cX12_readsThought 100 = .ok (.aload_n 0, 1) := by decide +kernel
theorem dX12_readsThought_101 : decode cX12_readsThought 101 = .ok (.getfield 13, 3) := by decide +kernel
theorem dX12_readsThought_104 : decode cX12_readsThought 104 = .ok (.iconst 5, 1) := by decide +kernel
theorem dX12_readsThought_105 : decode cX12_readsThought 105 = .ok (.dup2, 1) := by decide +kernel
theorem dX12_readsThought_106 : decode cX12_readsThought 106 = .ok (.iaload, 1) := by decide +kernel
theorem dX12_readsThought_107 : decode cX12_readsThought 107 = .ok (.iconst 1, 1) := by decide +kernel
theorem dX12_readsThought_108 : decode cX12_readsThought 108 = .ok (.iadd, 1) := by decide +kernel
theorem dX12_readsThought_109 : decode cX12_readsThought 109 = .ok (.iastore, 1) := by decide +kernel
theorem dX12_readsThought_110 : decode cX12_readsThought 110 = .ok (.aload_n 0, 1) := by decide +kernel
theorem dX12_readsThought_111 : decode cX12_readsThought 111 = .ok (.invokevirtual 293, 3) := by decide +kernel
theorem dX12_readsThought_114 : decode cX12_readsThought 114 = .ok (.ireturn, 1) := by decide +kernel
theorem dX12_readsFollows_0 : decode cX12_readsFollows 0 = .ok (.aload_n 0, 1) := by decide +kernel
theorem dX12_readsFollows_1 : decode cX12_readsFollows 1 = .ok (.invokevirtual 212, 3) := by decide +kernel
theorem dX12_readsFollows_4 : decode cX12_readsFollows 4 = .ok (.aload_n 0, 1) := by decide +kernel
theorem dX12_readsFollows_5 : decode cX12_readsFollows 5 = .ok (.iconst 1, 1) := by decide +kernel
theorem dX12_readsFollows_6 : decode cX12_readsFollows 6 = .ok (.invokevirtual 296, 3) := by decide +kernel
theorem dX12_readsFollows_9 : decode cX12_readsFollows 9 = .ok (.ifCond .ne 5, 3) := by decide +kernel
theorem dX12_readsFollows_12 : decode cX12_readsFollows 12 = .ok (.iconst 0, 1) := by decide +kernel
theorem dX12_readsFollows_13 : decode cX12_readsFollows 13 = .ok (.ireturn, 1) := by decide +kernel
theorem dX12_readsFollows_14 : decode cX12_readsFollows 14 = .ok (.aload_n 0, 1) := by decide +kernel
theorem dX12_readsFollows_15 : decode cX12_readsFollows 15 = .ok (.getfield 266, 3) := by decide +kernel
theorem dX12_readsFollows_18 : decode cX12_readsFollows 18 = .ok (.istore_n 1, 1) := by decide +kernel
theorem dX12_readsFollows_19 : decode cX12_readsFollows 19 = .ok (.aload_n 0, 1) := by decide +kernel
theorem dX12_readsFollows_20 : decode cX12_readsFollows 20 = .ok (.invokevirtual 212, 3) := by decide +kernel
theorem dX12_readsFollows_23 : decode cX12_readsFollows 23 = .ok (.aload_n 0, 1) := by decide +kernel
theorem dX12_readsFollows_24 : decode cX12_readsFollows 24 = .ok (.iconst 1, 1) := by decide +kernel
theorem dX12_readsFollows_25 : decode cX12_readsFollows 25 = .ok (.invokevirtual 296, 3) := by decide +kernel
theorem dX12_readsFollows_28 : decode cX12_readsFollows 28 = .ok (.ifCond .ne 5, 3) := by decide +kernel
theorem dX12_readsFollows_31 : decode cX12_readsFollows 31 = .ok (.iconst 0, 1) := by decide +kernel
theorem dX12_readsFollows_32 : decode cX12_readsFollows 32 = .ok (.ireturn, 1) := by decide +kernel
theorem dX12_readsFollows_33 : decode cX12_readsFollows 33 = .ok (.aload_n 0, 1) := by decide +kernel
theorem dX12_readsFollows_34 : decode cX12_readsFollows 34 = .ok (.getfield 29, 3) := by decide +kernel
theorem dX12_readsFollows_37 : decode cX12_readsFollows 37 = .ok (.bipush 8, 2) := by decide +kernel
theorem dX12_readsFollows_39 : decode cX12_readsFollows 39 = .ok (.aload_n 0, 1) := by decide +kernel
theorem dX12_readsFollows_40 : decode cX12_readsFollows 40 = .ok (.getfield 266, 3) := by decide +kernel
theorem dX12_readsFollows_43 : decode cX12_readsFollows 43 = .ok (.iadd, 1) := by decide +kernel
theorem dX12_readsFollows_44 : decode cX12_readsFollows 44 = .ok (.iaload, 1) := by decide +kernel
theorem dX12_readsFollows_45 : decode cX12_readsFollows 45 = .ok (.iload_n 1, 1) := by decide +kernel
theorem dX12_readsFollows_46 : decode cX12_readsFollows 46 = .ok (.ishr, 1) := by decide +kernel
theorem dX12_readsFollows_47 : decode cX12_readsFollows 47 = .ok (.iconst 1, 1) := by decide +kernel
theorem dX12_readsFollows_48 : decode cX12_readsFollows 48 = .ok (.iand, 1) := by decide +kernel
theorem dX12_readsFollows_49 : decode cX12_readsFollows 49 = .ok (.iconst 1, 1) := by decide +kernel
theorem dX12_readsFollows_50 : decode cX12_readsFollows 50 = .ok (.if_icmp .ne 9, 3) := by decide +kernel
theorem dX12_readsFollows_53 : decode cX12_readsFollows 53 = .ok (.aload_n 0, 1) := by decide +kernel
theorem dX12_readsFollows_54 : decode cX12_readsFollows 54 = .ok (.iconst 3, 1) := by decide +kernel
theorem dX12_readsFollows_55 : decode cX12_readsFollows 55 = .ok (.invokevirtual 206, 3) := by decide +kernel
theorem dX12_readsFollows_58 : decode cX12_readsFollows 58 = .ok (.ireturn, 1) := by decide +kernel
theorem dX12_readsFollows_59 : decode cX12_readsFollows 59 = .ok (.aload_n 0, 1) := by decide +kernel
theorem dX12_readsFollows_60 : decode cX12_readsFollows 60 = .ok (.getfield 29, 3) := by decide +kernel
theorem dX12_readsFollows_63 : decode cX12_readsFollows 63 = .ok (.bipush 8, 2) := by decide +kernel
theorem dX12_readsFollows_65 : decode cX12_readsFollows 65 = .ok (.aload_n 0, 1) := by decide +kernel
theorem dX12_readsFollows_66 : decode cX12_readsFollows 66 = .ok (.getfield 266, 3) := by decide +kernel
theorem dX12_readsFollows_69 : decode cX12_readsFollows 69 = .ok (.iadd, 1) := by decide +kernel
theorem dX12_readsFollows_70 : decode cX12_readsFollows 70 = .ok (.dup2, 1) := by decide +kernel
theorem dX12_readsFollows_71 : decode cX12_readsFollows 71 = .ok (.iaload, 1) := by decide +kernel
theorem dX12_readsFollows_72 : decode cX12_readsFollows 72 = .ok (.iconst 1, 1) := by decide +kernel
theorem dX12_readsFollows_73 : decode cX12_readsFollows 73 = .ok (.iload_n 1, 1) := by decide +kernel
theorem dX12_readsFollows_74 : decode cX12_readsFollows 74 = .ok (.ishl, 1) := by decide +kernel
theorem dX12_readsFollows_75 : decode cX12_readsFollows 75 = .ok (.ior, 1) := by decide +kernel
theorem dX12_readsFollows_76 : decode cX12_readsFollows 76 = .ok (.iastore, 1) := by decide +kernel
theorem dX12_readsFollows_77 : decode cX12_readsFollows 77 = .ok (.aload_n 0, 1) := by decide +kernel
theorem dX12_readsFollows_78 : decode cX12_readsFollows 78 = .ok (.invokevirtual 212, 3) := by decide +kernel
theorem dX12_readsFollows_81 : decode cX12_readsFollows 81 = .ok (.aload_n 0, 1) := by decide +kernel
theorem dX12_readsFollows_82 : decode cX12_readsFollows 82 = .ok (.invokevirtual 293, 3) := by decide +kernel
theorem dX12_readsFollows_85 : decode cX12_readsFollows 85 = .ok (.ireturn, 1) := by decide +kernel
theorem dX12_readsTenant_0 : decode cX12_readsTenant 0 = .ok (.iconst 5, 1) := by decide +kernel
theorem dX12_readsTenant_1 : decode cX12_readsTenant 1 = .ok (.aload_n 0, 1) := by decide +kernel
theorem dX12_readsTenant_2 : decode cX12_readsTenant 2 = .ok (.getfield 13, 3) := by decide +kernel
theorem dX12_readsTenant_5 : decode cX12_readsTenant 5 = .ok (.bipush 6, 2) := by decide +kernel
theorem dX12_readsTenant_7 : decode cX12_readsTenant 7 = .ok (.iaload, 1) := by decide +kernel
theorem dX12_readsTenant_8 : decode cX12_readsTenant 8 = .ok (.iadd, 1) := by decide +kernel
theorem dX12_readsTenant_9 : decode cX12_readsTenant 9 = .ok (.istore_n 1, 1) := by decide +kernel
theorem dX12_readsTenant_10 : decode cX12_readsTenant 10 = .ok (.iload_n 1, 1) := by decide +kernel
theorem dX12_readsTenant_11 : decode cX12_readsTenant 11 = .ok (.bipush 10, 2) := by decide +kernel
theorem dX12_readsTenant_13 : decode cX12_readsTenant 13 = .ok (.if_icmp .ne 9, 3) := by decide +kernel
theorem dX12_readsTenant_16 : decode cX12_readsTenant 16 = .ok (.aload_n 0, 1) := by decide +kernel
theorem dX12_readsTenant_17 : decode cX12_readsTenant 17 = .ok (.iconst 5, 1) := by decide +kernel
theorem dX12_readsTenant_18 : decode cX12_readsTenant 18 = .ok (.invokevirtual 206, 3) := by decide +kernel
theorem dX12_readsTenant_21 : decode cX12_readsTenant 21 = .ok (.ireturn, 1) := by decide +kernel
theorem dX12_readsTenant_22 : decode cX12_readsTenant 22 = .ok (.aload_n 0, 1) := by decide +kernel
theorem dX12_readsTenant_23 : decode cX12_readsTenant 23 = .ok (.invokevirtual 212, 3) := by decide +kernel
theorem dX12_readsTenant_26 : decode cX12_readsTenant 26 = .ok (.aload_n 0, 1) := by decide +kernel
theorem dX12_readsTenant_27 : decode cX12_readsTenant 27 = .ok (.invokevirtual 286, 3) := by decide +kernel
theorem dX12_readsTenant_30 : decode cX12_readsTenant 30 = .ok (.ifCond .ne 5, 3) := by decide +kernel
theorem dX12_readsTenant_33 : decode cX12_readsTenant 33 = .ok (.iconst 0, 1) := by decide +kernel
theorem dX12_readsTenant_34 : decode cX12_readsTenant 34 = .ok (.ireturn, 1) := by decide +kernel
theorem dX12_readsTenant_35 : decode cX12_readsTenant 35 = .ok (.aload_n 0, 1) := by decide +kernel
theorem dX12_readsTenant_36 : decode cX12_readsTenant 36 = .ok (.getfield 32, 3) := by decide +kernel
theorem dX12_readsTenant_39 : decode cX12_readsTenant 39 = .ok (.iload_n 1, 1) := by decide +kernel
theorem dX12_readsTenant_40 : decode cX12_readsTenant 40 = .ok (.aload_n 0, 1) := by decide +kernel
theorem dX12_readsTenant_41 : decode cX12_readsTenant 41 = .ok (.ldc2_w 254, 3) := by decide +kernel
theorem dX12_readsTenant_44 : decode cX12_readsTenant 44 = .ok (.invokevirtual 198, 3) := by decide +kernel
theorem dX12_readsTenant_47 : decode cX12_readsTenant 47 = .ok (.ifCond .eq 7, 3) := by decide +kernel
theorem dX12_readsTenant_50 : decode cX12_readsTenant 50 = .ok (.iconst 0, 1) := by decide +kernel
theorem dX12_readsTenant_51 : decode cX12_readsTenant 51 = .ok (.goto 46, 3) := by decide +kernel
theorem dX12_readsTenant_54 : decode cX12_readsTenant 54 = .ok (.aload_n 0, 1) := by decide +kernel
theorem dX12_readsTenant_55 : decode cX12_readsTenant 55 = .ok (.ldc2_w 256, 3) := by decide +kernel
theorem dX12_readsTenant_58 : decode cX12_readsTenant 58 = .ok (.invokevirtual 198, 3) := by decide +kernel
theorem dX12_readsTenant_61 : decode cX12_readsTenant 61 = .ok (.ifCond .eq 7, 3) := by decide +kernel
theorem dX12_readsTenant_64 : decode cX12_readsTenant 64 = .ok (.iconst 1, 1) := by decide +kernel
theorem dX12_readsTenant_65 : decode cX12_readsTenant 65 = .ok (.goto 32, 3) := by decide +kernel
theorem dX12_readsTenant_68 : decode cX12_readsTenant 68 = .ok (.aload_n 0, 1) := by decide +kernel
theorem dX12_readsTenant_69 : decode cX12_readsTenant 69 = .ok (.ldc2_w 258, 3) := by decide +kernel
theorem dX12_readsTenant_72 : decode cX12_readsTenant 72 = .ok (.invokevirtual 198, 3) := by decide +kernel
theorem dX12_readsTenant_75 : decode cX12_readsTenant 75 = .ok (.ifCond .eq 7, 3) := by decide +kernel
theorem dX12_readsTenant_78 : decode cX12_readsTenant 78 = .ok (.iconst 2, 1) := by decide +kernel
theorem dX12_readsTenant_79 : decode cX12_readsTenant 79 = .ok (.goto 18, 3) := by decide +kernel
theorem dX12_readsTenant_82 : decode cX12_readsTenant 82 = .ok (.aload_n 0, 1) := by decide +kernel
theorem dX12_readsTenant_83 : decode cX12_readsTenant 83 = .ok (.ldc2_w 260, 3) := by decide +kernel
theorem dX12_readsTenant_86 : decode cX12_readsTenant 86 = .ok (.invokevirtual 198, 3) := by decide +kernel
theorem dX12_readsTenant_89 : decode cX12_readsTenant 89 = .ok (.ifCond .eq 7, 3) := by decide +kernel
theorem dX12_readsTenant_92 : decode cX12_readsTenant 92 = .ok (.iconst 3, 1) := by decide +kernel
theorem dX12_readsTenant_93 : decode cX12_readsTenant 93 = .ok (.goto 4, 3) := by decide +kernel
theorem dX12_readsTenant_96 : decode cX12_readsTenant 96 = .ok (.iconst (-1), 1) := by decide +kernel
theorem dX12_readsTenant_97 : decode cX12_readsTenant 97 = .ok (.iastore, 1) := by decide +kernel
theorem dX12_readsTenant_98 : decode cX12_readsTenant 98 = .ok (.aload_n 0, 1) := by decide +kernel
theorem dX12_readsTenant_99 : decode cX12_readsTenant 99 = .ok (.getfield 32, 3) := by decide +kernel
theorem dX12_readsTenant_102 : decode cX12_readsTenant 102 = .ok (.iload_n 1, 1) := by decide +kernel
theorem dX12_readsTenant_103 : decode cX12_readsTenant 103 = .ok (.iaload, 1) := by decide +kernel
theorem dX12_readsTenant_104 : decode cX12_readsTenant 104 = .ok (.ifCond .ge 9, 3) := by decide +kernel
theorem dX12_readsTenant_107 : decode cX12_readsTenant 107 = .ok (.aload_n 0, 1) := by decide +kernel
theorem dX12_readsTenant_108 : decode cX12_readsTenant 108 = .ok (.iconst 1, 1) := by decide +kernel
theorem dX12_readsTenant_109 : decode cX12_readsTenant 109 = .ok (.invokevirtual 206, 3) := by decide +kernel
theorem dX12_readsTenant_112 : decode cX12_readsTenant 112 = .ok (.ireturn, 1) := by decide +kernel
theorem dX12_readsTenant_113 : decode cX12_readsTenant 113 = .ok (.aload_n 0, 1) := by decide +kernel
theorem dX12_readsTenant_114 : decode cX12_readsTenant 114 = .ok (.invokevirtual 212, 3) := by decide +kernel
theorem dX12_readsTenant_117 : decode cX12_readsTenant 117 = .ok (.aload_n 0, 1) := by decide +kernel
theorem dX12_readsTenant_118 : decode cX12_readsTenant 118 = .ok (.getfield 20, 3) := by decide +kernel
theorem dX12_readsTenant_121 : decode cX12_readsTenant 121 = .ok (.iload_n 1, 1) := by decide +kernel
theorem dX12_readsTenant_122 : decode cX12_readsTenant 122 = .ok (.aload_n 0, 1) := by decide +kernel
theorem dX12_readsTenant_123 : decode cX12_readsTenant 123 = .ok (.getfield 283, 3) := by decide +kernel
theorem dX12_readsTenant_126 : decode cX12_readsTenant 126 = .ok (.lastore, 1) := by decide +kernel
theorem dX12_readsTenant_127 : decode cX12_readsTenant 127 = .ok (.aload_n 0, 1) := by decide +kernel
theorem dX12_readsTenant_128 : decode cX12_readsTenant 128 = .ok (.getfield 13, 3) := by decide +kernel
theorem dX12_readsTenant_131 : decode cX12_readsTenant 131 = .ok (.bipush 6, 2) := by decide +kernel
theorem dX12_readsTenant_133 : decode cX12_readsTenant 133 = .ok (.dup2, 1) := by decide +kernel
theorem dX12_readsTenant_134 : decode cX12_readsTenant 134 = .ok (.iaload, 1) := by decide +kernel
theorem dX12_readsTenant_135 : decode cX12_readsTenant 135 = .ok (.iconst 1, 1) := by decide +kernel
theorem dX12_readsTenant_136 : decode cX12_readsTenant 136 = .ok (.iadd, 1) := by decide +kernel
theorem dX12_readsTenant_137 : decode cX12_readsTenant 137 = .ok (.iastore, 1) := by decide +kernel
theorem dX12_readsTenant_138 : decode cX12_readsTenant 138 = .ok (.aload_n 0, 1) := by decide +kernel
theorem dX12_readsTenant_139 : decode cX12_readsTenant 139 = .ok (.invokevirtual 293, 3) := by decide +kernel
theorem dX12_readsTenant_142 : decode cX12_readsTenant 142 = .ok (.ireturn, 1) := by decide +kernel
theorem dX12_readsOne_0 : decode cX12_readsOne 0 = .ok (.aload_n 0, 1) := by decide +kernel
theorem dX12_readsOne_1 : decode cX12_readsOne 1 = .ok (.getfield 299, 3) := by decide +kernel
theorem dX12_readsOne_4 : decode cX12_readsOne 4 = .ok (.iload_n 1, 1) := by decide +kernel
theorem dX12_readsOne_5 : decode cX12_readsOne 5 = .ok (.ishr, 1) := by decide +kernel
theorem dX12_readsOne_6 : decode cX12_readsOne 6 = .ok (.iconst 1, 1) := by decide +kernel
theorem dX12_readsOne_7 : decode cX12_readsOne 7 = .ok (.iand, 1) := by decide +kernel
theorem dX12_readsOne_8 : decode cX12_readsOne 8 = .ok (.iconst 1, 1) := by decide +kernel
theorem dX12_readsOne_9 : decode cX12_readsOne 9 = .ok (.if_icmp .ne 9, 3) := by decide +kernel
theorem dX12_readsOne_12 : decode cX12_readsOne 12 = .ok (.aload_n 0, 1) := by decide +kernel
theorem dX12_readsOne_13 : decode cX12_readsOne 13 = .ok (.iconst 3, 1) := by decide +kernel
theorem dX12_readsOne_14 : decode cX12_readsOne 14 = .ok (.invokevirtual 206, 3) := by decide +kernel
theorem dX12_readsOne_17 : decode cX12_readsOne 17 = .ok (.ireturn, 1) := by decide +kernel
theorem dX12_readsOne_18 : decode cX12_readsOne 18 = .ok (.aload_n 0, 1) := by decide +kernel
theorem dX12_readsOne_19 : decode cX12_readsOne 19 = .ok (.dup, 1) := by decide +kernel
theorem dX12_readsOne_20 : decode cX12_readsOne 20 = .ok (.getfield 299, 3) := by decide +kernel
theorem dX12_readsOne_23 : decode cX12_readsOne 23 = .ok (.iconst 1, 1) := by decide +kernel
theorem dX12_readsOne_24 : decode cX12_readsOne 24 = .ok (.iload_n 1, 1) := by decide +kernel
theorem dX12_readsOne_25 : decode cX12_readsOne 25 = .ok (.ishl, 1) := by decide +kernel
theorem dX12_readsOne_26 : decode cX12_readsOne 26 = .ok (.ior, 1) := by decide +kernel
theorem dX12_readsOne_27 : decode cX12_readsOne 27 = .ok (.putfield 299, 3) := by decide +kernel
theorem dX12_readsOne_30 : decode cX12_readsOne 30 = .ok (.aload_n 0, 1) := by decide +kernel
theorem dX12_readsOne_31 : decode cX12_readsOne 31 = .ok (.invokevirtual 212, 3) := by decide +kernel
theorem dX12_readsOne_34 : decode cX12_readsOne 34 = .ok (.aload_n 0, 1) := by decide +kernel
theorem dX12_readsOne_35 : decode cX12_readsOne 35 = .ok (.iload_n 2, 1) := by decide +kernel
theorem dX12_readsOne_36 : decode cX12_readsOne 36 = .ok (.iload_n 3, 1) := by decide +kernel
theorem dX12_readsOne_37 : decode cX12_readsOne 37 = .ok (.invokevirtual 269, 3) := by decide +kernel
theorem dX12_readsOne_40 : decode cX12_readsOne 40 = .ok (.ifCond .ne 5, 3) := by decide +kernel
theorem dX12_readsOne_43 : decode cX12_readsOne 43 = .ok (.iconst 0, 1) := by decide +kernel
theorem dX12_readsOne_44 : decode cX12_readsOne 44 = .ok (.ireturn, 1) := by decide +kernel
theorem dX12_readsOne_45 : decode cX12_readsOne 45 = .ok (.aload_n 0, 1) := by decide +kernel
theorem dX12_readsOne_46 : decode cX12_readsOne 46 = .ok (.getfield 13, 3) := by decide +kernel
theorem dX12_readsOne_49 : decode cX12_readsOne 49 = .ok (.iconst 5, 1) := by decide +kernel
theorem dX12_readsOne_50 : decode cX12_readsOne 50 = .ok (.iload_n 1, 1) := by decide +kernel
theorem dX12_readsOne_51 : decode cX12_readsOne 51 = .ok (.iadd, 1) := by decide +kernel
theorem dX12_readsOne_52 : decode cX12_readsOne 52 = .ok (.aload_n 0, 1) := by decide +kernel
theorem dX12_readsOne_53 : decode cX12_readsOne 53 = .ok (.getfield 266, 3) := by decide +kernel
theorem dX12_readsOne_56 : decode cX12_readsOne 56 = .ok (.iastore, 1) := by decide +kernel
theorem dX12_readsOne_57 : decode cX12_readsOne 57 = .ok (.aload_n 0, 1) := by decide +kernel
theorem dX12_readsOne_58 : decode cX12_readsOne 58 = .ok (.invokevirtual 293, 3) := by decide +kernel
theorem dX12_readsOne_61 : decode cX12_readsOne 61 = .ok (.ireturn, 1) := by decide +kernel
def F_m_readsThought (g : Nat → Int32) (n : Nat) (rs : mRS) (a : mAS) : Int32 × mRS × mAS :=
  if (8 + ((a.1) 5)) = 16 then (0, (F_m_fails g n rs 5), a) else (if ((F_m_needsNew g n (mv g n rs) a).1) = 0 then (0, ((F_m_needsNew g n (mv g n rs) a).2), a) else (if ((F_m_needsBoth g n ((F_m_needsNew g n (mv g n rs) a).2) 12532058 0 20).1) = 0 then (0, ((F_m_needsBoth g n ((F_m_needsNew g n (mv g n rs) a).2) 12532058 0 20).2), a) else (if ((F_m_needsBoth g n ((F_m_needsBoth g n ((F_m_needsNew g n (mv g n rs) a).2) 12532058 0 20).2) 316163 0 6).1) = 0 then (0, ((F_m_needsBoth g n ((F_m_needsBoth g n ((F_m_needsNew g n (mv g n rs) a).2) 12532058 0 20).2) 316163 0 6).2), ((a.1), (a.2.1), (a.2.2.1), (upd (a.2.2.2.1) ((8 + ((a.1) 5)) : Int32).toNatClampNeg (((F_m_needsBoth g n ((F_m_needsNew g n (mv g n rs) a).2) 12532058 0 20).2).2.2.1)), (a.2.2.2.2.1), (a.2.2.2.2.2.1), (a.2.2.2.2.2.2.1), (a.2.2.2.2.2.2.2.1), (a.2.2.2.2.2.2.2.2.1), (a.2.2.2.2.2.2.2.2.2.1), (a.2.2.2.2.2.2.2.2.2.2.1), (a.2.2.2.2.2.2.2.2.2.2.2))) else (((F_m_closes g n ((F_m_needsBoth g n ((F_m_needsBoth g n ((F_m_needsNew g n (mv g n rs) a).2) 12532058 0 20).2) 316163 0 6).2)).1), ((F_m_closes g n ((F_m_needsBoth g n ((F_m_needsBoth g n ((F_m_needsNew g n (mv g n rs) a).2) 12532058 0 20).2) 316163 0 6).2)).2), ((upd (a.1) 5 (((a.1) 5) + 1)), (vp_updL (a.2.1) ((8 + ((a.1) 5)) : Int32).toNatClampNeg (((F_m_needsBoth g n ((F_m_needsBoth g n ((F_m_needsNew g n (mv g n rs) a).2) 12532058 0 20).2) 316163 0 6).2).2.2.2.1)), (a.2.2.1), (upd (a.2.2.2.1) ((8 + ((a.1) 5)) : Int32).toNatClampNeg (((F_m_needsBoth g n ((F_m_needsNew g n (mv g n rs) a).2) 12532058 0 20).2).2.2.1)), (upd (a.2.2.2.2.1) ((8 + ((a.1) 5)) : Int32).toNatClampNeg (((F_m_needsBoth g n ((F_m_needsBoth g n ((F_m_needsNew g n (mv g n rs) a).2) 12532058 0 20).2) 316163 0 6).2).2.2.1)), (upd (a.2.2.2.2.2.1) ((8 + ((a.1) 5)) : Int32).toNatClampNeg 0), (a.2.2.2.2.2.2.1), (a.2.2.2.2.2.2.2.1), (a.2.2.2.2.2.2.2.2.1), (a.2.2.2.2.2.2.2.2.2.1), (a.2.2.2.2.2.2.2.2.2.2.1), (a.2.2.2.2.2.2.2.2.2.2.2))))))
set_option maxHeartbeats 4000000 in
set_option maxRecDepth 100000 in
theorem c_m_readsThought (γ : kΓ) (l : Launch) (z : Nat) (z2 : Nat) (z10 : Nat) (z11 : Nat) (z12 : Nat) (z13 : Nat) (z14 : Nat) (z15 : Nat) (z16 : Nat) (z17 : Nat) (z18 : Nat) (z19 : Nat) (z22 : Nat) (z23 : Nat) (z24 : Nat) (z25 : Nat) (z26 : Nat) (z27 : Nat) (z28 : Nat) (z29 : Nat) (z30 : Nat) (z31 : Nat) (z32 : Nat) (z33 : Nat) (z36 : Nat) (z37 : Nat) (z38 : Nat) (z39 : Nat) (z40 : Nat) (z41 : Nat) (z42 : Nat) (z43 : Nat) (z44 : Nat) (z45 : Nat) (z46 : Nat) (z47 : Nat) (z48 : Nat) (z55 : Nat) (z56 : Nat) (z59 : Nat) (z60 : Nat) (z61 : Nat) (n0 : Int32) (n1 : Int32) (n49 : Int32) (n50 : Int32) (n51 : Int32) (n52 : Int32) (n53 : Int32) (n54 : Int32) (n57 : Int32) (n58 : Int32) (n62 : Int32) (n63 : Int64) (n : Nat) (g : Nat → Int32) (rs : mRS) (a : mAS) (hn : n ≤ 1000) (hM : mOK a) : kM γ l yX12_readsThought cX12_readsThought 2 ((some .boolean)) ({ frames := 4, cells := 0, slots := 0, locals := 107 } : Room) [.ref z] ((mWz γ z z2 z10 z11 z12 z13 z14 z15 z16 z17 z18 z19 z22 z23 z24 z25 z26 z27 z28 z29 z30 z31 z32 z33 z36 z37 z38 z39 z40 z41 z42 z43 z44 z45 z46 z47 z48 z55 z56 z59 z60 z61 n0 n1 n49 n50 n51 n52 n53 n54 n57 n58 n62 n63 g n rs) ++ (mWa γ z10 z11 z12 z13 z14 z15 z16 z17 z18 z19 z22 z23 a)) (fun r w1 => r = some (.int ((F_m_readsThought g n rs a).1)) ∧ w1 = ((mWz γ z z2 z10 z11 z12 z13 z14 z15 z16 z17 z18 z19 z22 z23 z24 z25 z26 z27 z28 z29 z30 z31 z32 z33 z36 z37 z38 z39 z40 z41 z42 z43 z44 z45 z46 z47 z48 z55 z56 z59 z60 z61 n0 n1 n49 n50 n51 n52 n53 n54 n57 n58 n62 n63 g n ((F_m_readsThought g n rs a).2.1)) ++ (mWa γ z10 z11 z12 z13 z14 z15 z16 z17 z18 z19 z22 z23 ((F_m_readsThought g n rs a).2.2)))) := by
  refine k_ofW (by decide) (Nat.le_of_ble_eq_true rfl) ?_
  intro p9 e s m below meth c A ls hC hr hlocks hname hw hl
  have hx := hC.1
  have hb := hC.2.1
  have hl : lv_has ls 2 [(0, .ref z)] := hl
  refine lv_bipush (v := 8) hx hb dX12_readsThought_0 (by decide) ?_
  refine lv_aload_n hx hb dX12_readsThought_2 rfl (lv_at hl 0 rfl) ?_
  refine fg_RX12_13 hC hw 0 rfl rfl dX12_readsThought_3 ?_
  refine lv_iconst (v := 5) hx hb dX12_readsThought_6 (by decide) ?_
  refine k_iald hC hw 2 rfl (k_in0 (by decide)) dX12_readsThought_7 ?_
  refine lv_topi (fun x_159 ex_159 => ?_)
  obtain rfl : x_159 = ((a.1) 5) := ex_159
  refine lv_iadd hx hb dX12_readsThought_8 ?_
  refine lv_istore_n (lv' := [(1, .int (8 + ((a.1) 5))), (0, .ref z)]) hx hb dX12_readsThought_9 rfl hl (by decide) rfl (fun ls hl => ?_)
  refine lv_iload_n hx hb dX12_readsThought_10 rfl (lv_at hl 0 rfl) ?_
  refine lv_bipush (v := 16) hx hb dX12_readsThought_11 (by decide) ?_
  refine lv_icmp_ne (tgt := 22) hx hb dX12_readsThought_13 (by decide) (fun c_160 => ?_) (fun c_160 => ?_)
  · refine lv_aload_n hx hb dX12_readsThought_22 rfl (lv_at hl 1 rfl) ?_
    refine k_V (wr := (mWa γ z10 z11 z12 z13 z14 z15 z16 z17 z18 z19 z22 z23 a)) 0 gw_1402 gw_1404 gp_54 gw_15 gw_1405 hd_X12_nextToken hC hw (c_mv γ l z z2 z10 z11 z12 z13 z14 z15 z16 z17 z18 z19 z22 z23 z24 z25 z26 z27 z28 z29 z30 z31 z32 z33 z36 z37 z38 z39 z40 z41 z42 z43 z44 z45 z46 z47 z48 z55 z56 z59 z60 z61 n0 n1 n49 n50 n51 n52 n53 n54 n57 n58 n62 n63 n g rs hn) ⟨by decide, by decide⟩ ⟨by decide, by decide⟩ hl.1 rfl 0 rfl rfl rfl (Nat.le_of_ble_eq_true rfl) [0, 1] [2, 3, 4, 5, 6, 7, 8, 9, 10, 11, 12, 13] rfl rfl rfl rfl (by decide) dX12_readsThought_23 (fun r w1 H locs hq hw => ?_)
    obtain ⟨rfl, rfl⟩ := hq
    have hw : kW γ A ((mWa γ z10 z11 z12 z13 z14 z15 z16 z17 z18 z19 z22 z23 a) ++ (mWz γ z z2 z10 z11 z12 z13 z14 z15 z16 z17 z18 z19 z22 z23 z24 z25 z26 z27 z28 z29 z30 z31 z32 z33 z36 z37 z38 z39 z40 z41 z42 z43 z44 z45 z46 z47 z48 z55 z56 z59 z60 z61 n0 n1 n49 n50 n51 n52 n53 n54 n57 n58 n62 n63 g n (mv g n rs))) s H locs := hw
    refine W.eq (g2 := F0 m 26 ls []) rfl ?_
    refine lv_aload_n hx hb dX12_readsThought_26 rfl (lv_at hl 1 rfl) ?_
    refine k_V (wr := []) 0 gw_1425 gw_1427 gp_59 gw_15 gw_1428 hd_X12_needsNew hC hw (c_m_needsNew γ l z z2 z10 z11 z12 z13 z14 z15 z16 z17 z18 z19 z22 z23 z24 z25 z26 z27 z28 z29 z30 z31 z32 z33 z36 z37 z38 z39 z40 z41 z42 z43 z44 z45 z46 z47 z48 z55 z56 z59 z60 z61 n0 n1 n49 n50 n51 n52 n53 n54 n57 n58 n62 n63 n g (mv g n rs) a hn hM) ⟨by decide, by decide⟩ ⟨by decide, by decide⟩ hl.1 rfl 12 rfl rfl rfl (Nat.le_of_ble_eq_true rfl) [12, 13, 0, 1, 2, 3, 4, 5, 6, 7, 8, 9, 10, 11] [] rfl rfl rfl rfl (by decide) dX12_readsThought_27 (fun r w1 H locs hq hw => ?_)
    obtain ⟨rfl, rfl⟩ := hq
    have hw : kW γ A ((mWz γ z z2 z10 z11 z12 z13 z14 z15 z16 z17 z18 z19 z22 z23 z24 z25 z26 z27 z28 z29 z30 z31 z32 z33 z36 z37 z38 z39 z40 z41 z42 z43 z44 z45 z46 z47 z48 z55 z56 z59 z60 z61 n0 n1 n49 n50 n51 n52 n53 n54 n57 n58 n62 n63 g n ((F_m_needsNew g n (mv g n rs) a).2)) ++ (mWa γ z10 z11 z12 z13 z14 z15 z16 z17 z18 z19 z22 z23 a)) s H locs := hw
    refine W.eq (g2 := F0 m 30 ls [.int ((F_m_needsNew g n (mv g n rs) a).1)]) rfl ?_
    refine lv_if_eq (tgt := 46) hx hb dX12_readsThought_30 (by decide) (fun c_161 => ?_) (fun c_161 => ?_)
    · refine lv_iconst (v := 0) hx hb dX12_readsThought_46 (by decide) ?_
      have hE : (F_m_readsThought g n rs a) = (0, ((F_m_needsNew g n (mv g n rs) a).2), a) := by unfold F_m_readsThought; rw [if_neg c_160, if_pos c_161]
      have hw : kW γ A ((mWz γ z z2 z10 z11 z12 z13 z14 z15 z16 z17 z18 z19 z22 z23 z24 z25 z26 z27 z28 z29 z30 z31 z32 z33 z36 z37 z38 z39 z40 z41 z42 z43 z44 z45 z46 z47 z48 z55 z56 z59 z60 z61 n0 n1 n49 n50 n51 n52 n53 n54 n57 n58 n62 n63 g n ((F_m_readsThought g n rs a).2.1)) ++ (mWa γ z10 z11 z12 z13 z14 z15 z16 z17 z18 z19 z22 z23 ((F_m_readsThought g n rs a).2.2))) s H locs := by first | (rw [hE]; exact hw) | exact hw
      exact k_zret hC hr hlocks rfl hw [0, 1, 2, 3, 4, 5, 6, 7, 8, 9, 10, 11, 12, 13] rfl rfl ⟨by rw [hE], rfl⟩ (by decide) (by decide) dX12_readsThought_47
    · refine lv_aload_n hx hb dX12_readsThought_33 rfl (lv_at hl 1 rfl) ?_
      refine k_ldc2 hC gw_1433 dX12_readsThought_34 ?_
      refine lv_iconst (v := 0) hx hb dX12_readsThought_37 (by decide) ?_
      refine lv_bipush (v := 20) hx hb dX12_readsThought_38 (by decide) ?_
      refine k_V (wr := (mWa γ z10 z11 z12 z13 z14 z15 z16 z17 z18 z19 z22 z23 a)) 3 gw_1460 gw_1462 gp_63 gw_15 gw_1463 hd_X12_needsBoth hC hw (c_m_needsBoth γ l z z2 z10 z11 z12 z13 z14 z15 z16 z17 z18 z19 z22 z23 z24 z25 z26 z27 z28 z29 z30 z31 z32 z33 z36 z37 z38 z39 z40 z41 z42 z43 z44 z45 z46 z47 z48 z55 z56 z59 z60 z61 n0 n1 n49 n50 n51 n52 n53 n54 n57 n58 n62 n63 n g ((F_m_needsNew g n (mv g n rs) a).2) 12532058 0 20 hn) ⟨by decide, by decide⟩ ⟨by decide, by decide⟩ hl.1 rfl 0 rfl rfl rfl (Nat.le_of_ble_eq_true rfl) [0, 1] [2, 3, 4, 5, 6, 7, 8, 9, 10, 11, 12, 13] rfl rfl rfl rfl (by decide) dX12_readsThought_40 (fun r w1 H locs hq hw => ?_)
      obtain ⟨rfl, rfl⟩ := hq
      have hw : kW γ A ((mWa γ z10 z11 z12 z13 z14 z15 z16 z17 z18 z19 z22 z23 a) ++ (mWz γ z z2 z10 z11 z12 z13 z14 z15 z16 z17 z18 z19 z22 z23 z24 z25 z26 z27 z28 z29 z30 z31 z32 z33 z36 z37 z38 z39 z40 z41 z42 z43 z44 z45 z46 z47 z48 z55 z56 z59 z60 z61 n0 n1 n49 n50 n51 n52 n53 n54 n57 n58 n62 n63 g n ((F_m_needsBoth g n ((F_m_needsNew g n (mv g n rs) a).2) 12532058 0 20).2))) s H locs := hw
      refine W.eq (g2 := F0 m 43 ls [.int ((F_m_needsBoth g n ((F_m_needsNew g n (mv g n rs) a).2) 12532058 0 20).1)]) rfl ?_
      refine lv_if_ne (tgt := 48) hx hb dX12_readsThought_43 (by decide) (fun c_162 => ?_) (fun c_162 => ?_)
      · refine lv_aload_n hx hb dX12_readsThought_48 rfl (lv_at hl 1 rfl) ?_
        refine fg_RX12_23 hC hw 12 rfl rfl dX12_readsThought_49 ?_
        refine lv_iload_n hx hb dX12_readsThought_52 rfl (lv_at hl 0 rfl) ?_
        refine lv_aload_n hx hb dX12_readsThought_53 rfl (lv_at hl 1 rfl) ?_
        refine fg_RX12_266 hC hw 12 rfl rfl dX12_readsThought_54 ?_
        refine k_iast hC hw 3 rfl (in16 hM.1.1 hM.1.2 c_160) dX12_readsThought_57 (fun H locs hw => ?_)
        have hw : kW γ A ((mWa γ z10 z11 z12 z13 z14 z15 z16 z17 z18 z19 z22 z23 ((a.1), (a.2.1), (a.2.2.1), (upd (a.2.2.2.1) ((8 + ((a.1) 5)) : Int32).toNatClampNeg (((F_m_needsBoth g n ((F_m_needsNew g n (mv g n rs) a).2) 12532058 0 20).2).2.2.1)), (a.2.2.2.2.1), (a.2.2.2.2.2.1), (a.2.2.2.2.2.2.1), (a.2.2.2.2.2.2.2.1), (a.2.2.2.2.2.2.2.2.1), (a.2.2.2.2.2.2.2.2.2.1), (a.2.2.2.2.2.2.2.2.2.2.1), (a.2.2.2.2.2.2.2.2.2.2.2))) ++ (mWz γ z z2 z10 z11 z12 z13 z14 z15 z16 z17 z18 z19 z22 z23 z24 z25 z26 z27 z28 z29 z30 z31 z32 z33 z36 z37 z38 z39 z40 z41 z42 z43 z44 z45 z46 z47 z48 z55 z56 z59 z60 z61 n0 n1 n49 n50 n51 n52 n53 n54 n57 n58 n62 n63 g n ((F_m_needsBoth g n ((F_m_needsNew g n (mv g n rs) a).2) 12532058 0 20).2))) s H locs := hw
        refine lv_aload_n hx hb dX12_readsThought_58 rfl (lv_at hl 1 rfl) ?_
        refine k_ldc2 hC gw_1434 dX12_readsThought_59 ?_
        refine lv_iconst (v := 0) hx hb dX12_readsThought_62 (by decide) ?_
        refine lv_bipush (v := 6) hx hb dX12_readsThought_63 (by decide) ?_
        refine k_V (wr := (mWa γ z10 z11 z12 z13 z14 z15 z16 z17 z18 z19 z22 z23 ((a.1), (a.2.1), (a.2.2.1), (upd (a.2.2.2.1) ((8 + ((a.1) 5)) : Int32).toNatClampNeg (((F_m_needsBoth g n ((F_m_needsNew g n (mv g n rs) a).2) 12532058 0 20).2).2.2.1)), (a.2.2.2.2.1), (a.2.2.2.2.2.1), (a.2.2.2.2.2.2.1), (a.2.2.2.2.2.2.2.1), (a.2.2.2.2.2.2.2.2.1), (a.2.2.2.2.2.2.2.2.2.1), (a.2.2.2.2.2.2.2.2.2.2.1), (a.2.2.2.2.2.2.2.2.2.2.2)))) 3 gw_1460 gw_1462 gp_63 gw_15 gw_1463 hd_X12_needsBoth hC hw (c_m_needsBoth γ l z z2 z10 z11 z12 z13 z14 z15 z16 z17 z18 z19 z22 z23 z24 z25 z26 z27 z28 z29 z30 z31 z32 z33 z36 z37 z38 z39 z40 z41 z42 z43 z44 z45 z46 z47 z48 z55 z56 z59 z60 z61 n0 n1 n49 n50 n51 n52 n53 n54 n57 n58 n62 n63 n g ((F_m_needsBoth g n ((F_m_needsNew g n (mv g n rs) a).2) 12532058 0 20).2) 316163 0 6 hn) ⟨by decide, by decide⟩ ⟨by decide, by decide⟩ hl.1 rfl 12 rfl rfl rfl (Nat.le_of_ble_eq_true rfl) [12, 13] [0, 1, 2, 3, 4, 5, 6, 7, 8, 9, 10, 11] rfl rfl rfl rfl (by decide) dX12_readsThought_65 (fun r w1 H locs hq hw => ?_)
        obtain ⟨rfl, rfl⟩ := hq
        have hw : kW γ A ((mWa γ z10 z11 z12 z13 z14 z15 z16 z17 z18 z19 z22 z23 ((a.1), (a.2.1), (a.2.2.1), (upd (a.2.2.2.1) ((8 + ((a.1) 5)) : Int32).toNatClampNeg (((F_m_needsBoth g n ((F_m_needsNew g n (mv g n rs) a).2) 12532058 0 20).2).2.2.1)), (a.2.2.2.2.1), (a.2.2.2.2.2.1), (a.2.2.2.2.2.2.1), (a.2.2.2.2.2.2.2.1), (a.2.2.2.2.2.2.2.2.1), (a.2.2.2.2.2.2.2.2.2.1), (a.2.2.2.2.2.2.2.2.2.2.1), (a.2.2.2.2.2.2.2.2.2.2.2))) ++ (mWz γ z z2 z10 z11 z12 z13 z14 z15 z16 z17 z18 z19 z22 z23 z24 z25 z26 z27 z28 z29 z30 z31 z32 z33 z36 z37 z38 z39 z40 z41 z42 z43 z44 z45 z46 z47 z48 z55 z56 z59 z60 z61 n0 n1 n49 n50 n51 n52 n53 n54 n57 n58 n62 n63 g n ((F_m_needsBoth g n ((F_m_needsBoth g n ((F_m_needsNew g n (mv g n rs) a).2) 12532058 0 20).2) 316163 0 6).2))) s H locs := hw
        refine W.eq (g2 := F0 m 68 ls [.int ((F_m_needsBoth g n ((F_m_needsBoth g n ((F_m_needsNew g n (mv g n rs) a).2) 12532058 0 20).2) 316163 0 6).1)]) rfl ?_
        refine lv_if_ne (tgt := 73) hx hb dX12_readsThought_68 (by decide) (fun c_163 => ?_) (fun c_163 => ?_)
        · refine lv_aload_n hx hb dX12_readsThought_73 rfl (lv_at hl 1 rfl) ?_
          refine fg_RX12_26 hC hw 12 rfl rfl dX12_readsThought_74 ?_
          refine lv_iload_n hx hb dX12_readsThought_77 rfl (lv_at hl 0 rfl) ?_
          refine lv_aload_n hx hb dX12_readsThought_78 rfl (lv_at hl 1 rfl) ?_
          refine fg_RX12_266 hC hw 12 rfl rfl dX12_readsThought_79 ?_
          refine k_iast hC hw 4 rfl (in16 hM.1.1 hM.1.2 c_160) dX12_readsThought_82 (fun H locs hw => ?_)
          have hw : kW γ A ((mWa γ z10 z11 z12 z13 z14 z15 z16 z17 z18 z19 z22 z23 ((a.1), (a.2.1), (a.2.2.1), (upd (a.2.2.2.1) ((8 + ((a.1) 5)) : Int32).toNatClampNeg (((F_m_needsBoth g n ((F_m_needsNew g n (mv g n rs) a).2) 12532058 0 20).2).2.2.1)), (upd (a.2.2.2.2.1) ((8 + ((a.1) 5)) : Int32).toNatClampNeg (((F_m_needsBoth g n ((F_m_needsBoth g n ((F_m_needsNew g n (mv g n rs) a).2) 12532058 0 20).2) 316163 0 6).2).2.2.1)), (a.2.2.2.2.2.1), (a.2.2.2.2.2.2.1), (a.2.2.2.2.2.2.2.1), (a.2.2.2.2.2.2.2.2.1), (a.2.2.2.2.2.2.2.2.2.1), (a.2.2.2.2.2.2.2.2.2.2.1), (a.2.2.2.2.2.2.2.2.2.2.2))) ++ (mWz γ z z2 z10 z11 z12 z13 z14 z15 z16 z17 z18 z19 z22 z23 z24 z25 z26 z27 z28 z29 z30 z31 z32 z33 z36 z37 z38 z39 z40 z41 z42 z43 z44 z45 z46 z47 z48 z55 z56 z59 z60 z61 n0 n1 n49 n50 n51 n52 n53 n54 n57 n58 n62 n63 g n ((F_m_needsBoth g n ((F_m_needsBoth g n ((F_m_needsNew g n (mv g n rs) a).2) 12532058 0 20).2) 316163 0 6).2))) s H locs := hw
          refine lv_aload_n hx hb dX12_readsThought_83 rfl (lv_at hl 1 rfl) ?_
          refine fg_RX12_29 hC hw 12 rfl rfl dX12_readsThought_84 ?_
          refine lv_iload_n hx hb dX12_readsThought_87 rfl (lv_at hl 0 rfl) ?_
          refine lv_iconst (v := 0) hx hb dX12_readsThought_88 (by decide) ?_
          refine k_iast hC hw 5 rfl (in16 hM.1.1 hM.1.2 c_160) dX12_readsThought_89 (fun H locs hw => ?_)
          have hw : kW γ A ((mWa γ z10 z11 z12 z13 z14 z15 z16 z17 z18 z19 z22 z23 ((a.1), (a.2.1), (a.2.2.1), (upd (a.2.2.2.1) ((8 + ((a.1) 5)) : Int32).toNatClampNeg (((F_m_needsBoth g n ((F_m_needsNew g n (mv g n rs) a).2) 12532058 0 20).2).2.2.1)), (upd (a.2.2.2.2.1) ((8 + ((a.1) 5)) : Int32).toNatClampNeg (((F_m_needsBoth g n ((F_m_needsBoth g n ((F_m_needsNew g n (mv g n rs) a).2) 12532058 0 20).2) 316163 0 6).2).2.2.1)), (upd (a.2.2.2.2.2.1) ((8 + ((a.1) 5)) : Int32).toNatClampNeg 0), (a.2.2.2.2.2.2.1), (a.2.2.2.2.2.2.2.1), (a.2.2.2.2.2.2.2.2.1), (a.2.2.2.2.2.2.2.2.2.1), (a.2.2.2.2.2.2.2.2.2.2.1), (a.2.2.2.2.2.2.2.2.2.2.2))) ++ (mWz γ z z2 z10 z11 z12 z13 z14 z15 z16 z17 z18 z19 z22 z23 z24 z25 z26 z27 z28 z29 z30 z31 z32 z33 z36 z37 z38 z39 z40 z41 z42 z43 z44 z45 z46 z47 z48 z55 z56 z59 z60 z61 n0 n1 n49 n50 n51 n52 n53 n54 n57 n58 n62 n63 g n ((F_m_needsBoth g n ((F_m_needsBoth g n ((F_m_needsNew g n (mv g n rs) a).2) 12532058 0 20).2) 316163 0 6).2))) s H locs := hw
          refine lv_aload_n hx hb dX12_readsThought_90 rfl (lv_at hl 1 rfl) ?_
          refine fg_RX12_16 hC hw 12 rfl rfl dX12_readsThought_91 ?_
          refine lv_iload_n hx hb dX12_readsThought_94 rfl (lv_at hl 0 rfl) ?_
          refine lv_aload_n hx hb dX12_readsThought_95 rfl (lv_at hl 1 rfl) ?_
          refine fg_RX12_283 hC hw 12 rfl rfl dX12_readsThought_96 ?_
          refine k_last hC hw 1 rfl (in16 hM.1.1 hM.1.2 c_160) dX12_readsThought_99 (fun H locs hw => ?_)
          have hw : kW γ A ((mWa γ z10 z11 z12 z13 z14 z15 z16 z17 z18 z19 z22 z23 ((a.1), (vp_updL (a.2.1) ((8 + ((a.1) 5)) : Int32).toNatClampNeg (((F_m_needsBoth g n ((F_m_needsBoth g n ((F_m_needsNew g n (mv g n rs) a).2) 12532058 0 20).2) 316163 0 6).2).2.2.2.1)), (a.2.2.1), (upd (a.2.2.2.1) ((8 + ((a.1) 5)) : Int32).toNatClampNeg (((F_m_needsBoth g n ((F_m_needsNew g n (mv g n rs) a).2) 12532058 0 20).2).2.2.1)), (upd (a.2.2.2.2.1) ((8 + ((a.1) 5)) : Int32).toNatClampNeg (((F_m_needsBoth g n ((F_m_needsBoth g n ((F_m_needsNew g n (mv g n rs) a).2) 12532058 0 20).2) 316163 0 6).2).2.2.1)), (upd (a.2.2.2.2.2.1) ((8 + ((a.1) 5)) : Int32).toNatClampNeg 0), (a.2.2.2.2.2.2.1), (a.2.2.2.2.2.2.2.1), (a.2.2.2.2.2.2.2.2.1), (a.2.2.2.2.2.2.2.2.2.1), (a.2.2.2.2.2.2.2.2.2.2.1), (a.2.2.2.2.2.2.2.2.2.2.2))) ++ (mWz γ z z2 z10 z11 z12 z13 z14 z15 z16 z17 z18 z19 z22 z23 z24 z25 z26 z27 z28 z29 z30 z31 z32 z33 z36 z37 z38 z39 z40 z41 z42 z43 z44 z45 z46 z47 z48 z55 z56 z59 z60 z61 n0 n1 n49 n50 n51 n52 n53 n54 n57 n58 n62 n63 g n ((F_m_needsBoth g n ((F_m_needsBoth g n ((F_m_needsNew g n (mv g n rs) a).2) 12532058 0 20).2) 316163 0 6).2))) s H locs := hw
          refine lv_aload_n hx hb dX12_readsThought_100 rfl (lv_at hl 1 rfl) ?_
          refine fg_RX12_13 hC hw 12 rfl rfl dX12_readsThought_101 ?_
          refine lv_iconst (v := 5) hx hb dX12_readsThought_104 (by decide) ?_
          refine lv_dup2_11 hx hb dX12_readsThought_105 rfl rfl ?_
          refine k_iald hC hw 0 rfl (k_in0 (by decide)) dX12_readsThought_106 ?_
          refine lv_topi (fun x_164 ex_164 => ?_)
          obtain rfl : x_164 = ((a.1) 5) := ex_164
          refine lv_iconst (v := 1) hx hb dX12_readsThought_107 (by decide) ?_
          refine lv_iadd hx hb dX12_readsThought_108 ?_
          refine k_iast hC hw 0 rfl (k_in0 (by decide)) dX12_readsThought_109 (fun H locs hw => ?_)
          have hw : kW γ A ((mWa γ z10 z11 z12 z13 z14 z15 z16 z17 z18 z19 z22 z23 ((upd (a.1) 5 (((a.1) 5) + 1)), (vp_updL (a.2.1) ((8 + ((a.1) 5)) : Int32).toNatClampNeg (((F_m_needsBoth g n ((F_m_needsBoth g n ((F_m_needsNew g n (mv g n rs) a).2) 12532058 0 20).2) 316163 0 6).2).2.2.2.1)), (a.2.2.1), (upd (a.2.2.2.1) ((8 + ((a.1) 5)) : Int32).toNatClampNeg (((F_m_needsBoth g n ((F_m_needsNew g n (mv g n rs) a).2) 12532058 0 20).2).2.2.1)), (upd (a.2.2.2.2.1) ((8 + ((a.1) 5)) : Int32).toNatClampNeg (((F_m_needsBoth g n ((F_m_needsBoth g n ((F_m_needsNew g n (mv g n rs) a).2) 12532058 0 20).2) 316163 0 6).2).2.2.1)), (upd (a.2.2.2.2.2.1) ((8 + ((a.1) 5)) : Int32).toNatClampNeg 0), (a.2.2.2.2.2.2.1), (a.2.2.2.2.2.2.2.1), (a.2.2.2.2.2.2.2.2.1), (a.2.2.2.2.2.2.2.2.2.1), (a.2.2.2.2.2.2.2.2.2.2.1), (a.2.2.2.2.2.2.2.2.2.2.2))) ++ (mWz γ z z2 z10 z11 z12 z13 z14 z15 z16 z17 z18 z19 z22 z23 z24 z25 z26 z27 z28 z29 z30 z31 z32 z33 z36 z37 z38 z39 z40 z41 z42 z43 z44 z45 z46 z47 z48 z55 z56 z59 z60 z61 n0 n1 n49 n50 n51 n52 n53 n54 n57 n58 n62 n63 g n ((F_m_needsBoth g n ((F_m_needsBoth g n ((F_m_needsNew g n (mv g n rs) a).2) 12532058 0 20).2) 316163 0 6).2))) s H locs := hw
          refine lv_aload_n hx hb dX12_readsThought_110 rfl (lv_at hl 1 rfl) ?_
          refine k_V (wr := (mWa γ z10 z11 z12 z13 z14 z15 z16 z17 z18 z19 z22 z23 ((upd (a.1) 5 (((a.1) 5) + 1)), (vp_updL (a.2.1) ((8 + ((a.1) 5)) : Int32).toNatClampNeg (((F_m_needsBoth g n ((F_m_needsBoth g n ((F_m_needsNew g n (mv g n rs) a).2) 12532058 0 20).2) 316163 0 6).2).2.2.2.1)), (a.2.2.1), (upd (a.2.2.2.1) ((8 + ((a.1) 5)) : Int32).toNatClampNeg (((F_m_needsBoth g n ((F_m_needsNew g n (mv g n rs) a).2) 12532058 0 20).2).2.2.1)), (upd (a.2.2.2.2.1) ((8 + ((a.1) 5)) : Int32).toNatClampNeg (((F_m_needsBoth g n ((F_m_needsBoth g n ((F_m_needsNew g n (mv g n rs) a).2) 12532058 0 20).2) 316163 0 6).2).2.2.1)), (upd (a.2.2.2.2.2.1) ((8 + ((a.1) 5)) : Int32).toNatClampNeg 0), (a.2.2.2.2.2.2.1), (a.2.2.2.2.2.2.2.1), (a.2.2.2.2.2.2.2.2.1), (a.2.2.2.2.2.2.2.2.2.1), (a.2.2.2.2.2.2.2.2.2.2.1), (a.2.2.2.2.2.2.2.2.2.2.2)))) 0 gw_1471 gw_1473 gp_65 gw_15 gw_1474 hd_X12_closes hC hw (c_m_closes γ l z z2 z10 z11 z12 z13 z14 z15 z16 z17 z18 z19 z22 z23 z24 z25 z26 z27 z28 z29 z30 z31 z32 z33 z36 z37 z38 z39 z40 z41 z42 z43 z44 z45 z46 z47 z48 z55 z56 z59 z60 z61 n0 n1 n49 n50 n51 n52 n53 n54 n57 n58 n62 n63 n g ((F_m_needsBoth g n ((F_m_needsBoth g n ((F_m_needsNew g n (mv g n rs) a).2) 12532058 0 20).2) 316163 0 6).2) hn) ⟨by decide, by decide⟩ ⟨by decide, by decide⟩ hl.1 rfl 12 rfl rfl rfl (Nat.le_of_ble_eq_true rfl) [12, 13] [0, 1, 2, 3, 4, 5, 6, 7, 8, 9, 10, 11] rfl rfl rfl rfl (by decide) dX12_readsThought_111 (fun r w1 H locs hq hw => ?_)
          obtain ⟨rfl, rfl⟩ := hq
          have hw : kW γ A ((mWa γ z10 z11 z12 z13 z14 z15 z16 z17 z18 z19 z22 z23 ((upd (a.1) 5 (((a.1) 5) + 1)), (vp_updL (a.2.1) ((8 + ((a.1) 5)) : Int32).toNatClampNeg (((F_m_needsBoth g n ((F_m_needsBoth g n ((F_m_needsNew g n (mv g n rs) a).2) 12532058 0 20).2) 316163 0 6).2).2.2.2.1)), (a.2.2.1), (upd (a.2.2.2.1) ((8 + ((a.1) 5)) : Int32).toNatClampNeg (((F_m_needsBoth g n ((F_m_needsNew g n (mv g n rs) a).2) 12532058 0 20).2).2.2.1)), (upd (a.2.2.2.2.1) ((8 + ((a.1) 5)) : Int32).toNatClampNeg (((F_m_needsBoth g n ((F_m_needsBoth g n ((F_m_needsNew g n (mv g n rs) a).2) 12532058 0 20).2) 316163 0 6).2).2.2.1)), (upd (a.2.2.2.2.2.1) ((8 + ((a.1) 5)) : Int32).toNatClampNeg 0), (a.2.2.2.2.2.2.1), (a.2.2.2.2.2.2.2.1), (a.2.2.2.2.2.2.2.2.1), (a.2.2.2.2.2.2.2.2.2.1), (a.2.2.2.2.2.2.2.2.2.2.1), (a.2.2.2.2.2.2.2.2.2.2.2))) ++ (mWz γ z z2 z10 z11 z12 z13 z14 z15 z16 z17 z18 z19 z22 z23 z24 z25 z26 z27 z28 z29 z30 z31 z32 z33 z36 z37 z38 z39 z40 z41 z42 z43 z44 z45 z46 z47 z48 z55 z56 z59 z60 z61 n0 n1 n49 n50 n51 n52 n53 n54 n57 n58 n62 n63 g n ((F_m_closes g n ((F_m_needsBoth g n ((F_m_needsBoth g n ((F_m_needsNew g n (mv g n rs) a).2) 12532058 0 20).2) 316163 0 6).2)).2))) s H locs := hw
          refine W.eq (g2 := F0 m 114 ls [.int ((F_m_closes g n ((F_m_needsBoth g n ((F_m_needsBoth g n ((F_m_needsNew g n (mv g n rs) a).2) 12532058 0 20).2) 316163 0 6).2)).1)]) rfl ?_
          have hE : (F_m_readsThought g n rs a) = (((F_m_closes g n ((F_m_needsBoth g n ((F_m_needsBoth g n ((F_m_needsNew g n (mv g n rs) a).2) 12532058 0 20).2) 316163 0 6).2)).1), ((F_m_closes g n ((F_m_needsBoth g n ((F_m_needsBoth g n ((F_m_needsNew g n (mv g n rs) a).2) 12532058 0 20).2) 316163 0 6).2)).2), ((upd (a.1) 5 (((a.1) 5) + 1)), (vp_updL (a.2.1) ((8 + ((a.1) 5)) : Int32).toNatClampNeg (((F_m_needsBoth g n ((F_m_needsBoth g n ((F_m_needsNew g n (mv g n rs) a).2) 12532058 0 20).2) 316163 0 6).2).2.2.2.1)), (a.2.2.1), (upd (a.2.2.2.1) ((8 + ((a.1) 5)) : Int32).toNatClampNeg (((F_m_needsBoth g n ((F_m_needsNew g n (mv g n rs) a).2) 12532058 0 20).2).2.2.1)), (upd (a.2.2.2.2.1) ((8 + ((a.1) 5)) : Int32).toNatClampNeg (((F_m_needsBoth g n ((F_m_needsBoth g n ((F_m_needsNew g n (mv g n rs) a).2) 12532058 0 20).2) 316163 0 6).2).2.2.1)), (upd (a.2.2.2.2.2.1) ((8 + ((a.1) 5)) : Int32).toNatClampNeg 0), (a.2.2.2.2.2.2.1), (a.2.2.2.2.2.2.2.1), (a.2.2.2.2.2.2.2.2.1), (a.2.2.2.2.2.2.2.2.2.1), (a.2.2.2.2.2.2.2.2.2.2.1), (a.2.2.2.2.2.2.2.2.2.2.2))) := by unfold F_m_readsThought; rw [if_neg c_160, if_neg c_161, if_neg c_162, if_neg c_163]
          have hw : kW γ A ((mWa γ z10 z11 z12 z13 z14 z15 z16 z17 z18 z19 z22 z23 ((F_m_readsThought g n rs a).2.2)) ++ (mWz γ z z2 z10 z11 z12 z13 z14 z15 z16 z17 z18 z19 z22 z23 z24 z25 z26 z27 z28 z29 z30 z31 z32 z33 z36 z37 z38 z39 z40 z41 z42 z43 z44 z45 z46 z47 z48 z55 z56 z59 z60 z61 n0 n1 n49 n50 n51 n52 n53 n54 n57 n58 n62 n63 g n ((F_m_readsThought g n rs a).2.1))) s H locs := by first | (rw [hE]; exact hw) | exact hw
          exact k_zret hC hr hlocks (zb b_closes) hw [12, 13, 0, 1, 2, 3, 4, 5, 6, 7, 8, 9, 10, 11] rfl rfl ⟨by rw [hE], rfl⟩ (by decide) (by decide) dX12_readsThought_114
        · refine lv_iconst (v := 0) hx hb dX12_readsThought_71 (by decide) ?_
          have hE : (F_m_readsThought g n rs a) = (0, ((F_m_needsBoth g n ((F_m_needsBoth g n ((F_m_needsNew g n (mv g n rs) a).2) 12532058 0 20).2) 316163 0 6).2), ((a.1), (a.2.1), (a.2.2.1), (upd (a.2.2.2.1) ((8 + ((a.1) 5)) : Int32).toNatClampNeg (((F_m_needsBoth g n ((F_m_needsNew g n (mv g n rs) a).2) 12532058 0 20).2).2.2.1)), (a.2.2.2.2.1), (a.2.2.2.2.2.1), (a.2.2.2.2.2.2.1), (a.2.2.2.2.2.2.2.1), (a.2.2.2.2.2.2.2.2.1), (a.2.2.2.2.2.2.2.2.2.1), (a.2.2.2.2.2.2.2.2.2.2.1), (a.2.2.2.2.2.2.2.2.2.2.2))) := by unfold F_m_readsThought; rw [if_neg c_160, if_neg c_161, if_neg c_162, if_pos c_163]
          have hw : kW γ A ((mWa γ z10 z11 z12 z13 z14 z15 z16 z17 z18 z19 z22 z23 ((F_m_readsThought g n rs a).2.2)) ++ (mWz γ z z2 z10 z11 z12 z13 z14 z15 z16 z17 z18 z19 z22 z23 z24 z25 z26 z27 z28 z29 z30 z31 z32 z33 z36 z37 z38 z39 z40 z41 z42 z43 z44 z45 z46 z47 z48 z55 z56 z59 z60 z61 n0 n1 n49 n50 n51 n52 n53 n54 n57 n58 n62 n63 g n ((F_m_readsThought g n rs a).2.1))) s H locs := by first | (rw [hE]; exact hw) | exact hw
          exact k_zret hC hr hlocks rfl hw [12, 13, 0, 1, 2, 3, 4, 5, 6, 7, 8, 9, 10, 11] rfl rfl ⟨by rw [hE], rfl⟩ (by decide) (by decide) dX12_readsThought_72
      · refine lv_iconst (v := 0) hx hb dX12_readsThought_46 (by decide) ?_
        have hE : (F_m_readsThought g n rs a) = (0, ((F_m_needsBoth g n ((F_m_needsNew g n (mv g n rs) a).2) 12532058 0 20).2), a) := by unfold F_m_readsThought; rw [if_neg c_160, if_neg c_161, if_pos c_162]
        have hw : kW γ A ((mWa γ z10 z11 z12 z13 z14 z15 z16 z17 z18 z19 z22 z23 ((F_m_readsThought g n rs a).2.2)) ++ (mWz γ z z2 z10 z11 z12 z13 z14 z15 z16 z17 z18 z19 z22 z23 z24 z25 z26 z27 z28 z29 z30 z31 z32 z33 z36 z37 z38 z39 z40 z41 z42 z43 z44 z45 z46 z47 z48 z55 z56 z59 z60 z61 n0 n1 n49 n50 n51 n52 n53 n54 n57 n58 n62 n63 g n ((F_m_readsThought g n rs a).2.1))) s H locs := by first | (rw [hE]; exact hw) | exact hw
        exact k_zret hC hr hlocks rfl hw [12, 13, 0, 1, 2, 3, 4, 5, 6, 7, 8, 9, 10, 11] rfl rfl ⟨by rw [hE], rfl⟩ (by decide) (by decide) dX12_readsThought_47
  · refine lv_aload_n hx hb dX12_readsThought_16 rfl (lv_at hl 1 rfl) ?_
    refine lv_iconst (v := 5) hx hb dX12_readsThought_17 (by decide) ?_
    refine k_V (wr := (mWa γ z10 z11 z12 z13 z14 z15 z16 z17 z18 z19 z22 z23 a)) 1 gw_1421 gw_1423 gp_58 gw_15 gw_1424 hd_X12_fails hC hw (c_m_fails γ l z z2 z10 z11 z12 z13 z14 z15 z16 z17 z18 z19 z22 z23 z24 z25 z26 z27 z28 z29 z30 z31 z32 z33 z36 z37 z38 z39 z40 z41 z42 z43 z44 z45 z46 z47 z48 z55 z56 z59 z60 z61 n0 n1 n49 n50 n51 n52 n53 n54 n57 n58 n62 n63 n g rs 5 hn) ⟨by decide, by decide⟩ ⟨by decide, by decide⟩ hl.1 rfl 0 rfl rfl rfl (Nat.le_of_ble_eq_true rfl) [0, 1] [2, 3, 4, 5, 6, 7, 8, 9, 10, 11, 12, 13] rfl rfl rfl rfl (by decide) dX12_readsThought_18 (fun r w1 H locs hq hw => ?_)
    obtain ⟨rfl, rfl⟩ := hq
    have hw : kW γ A ((mWa γ z10 z11 z12 z13 z14 z15 z16 z17 z18 z19 z22 z23 a) ++ (mWz γ z z2 z10 z11 z12 z13 z14 z15 z16 z17 z18 z19 z22 z23 z24 z25 z26 z27 z28 z29 z30 z31 z32 z33 z36 z37 z38 z39 z40 z41 z42 z43 z44 z45 z46 z47 z48 z55 z56 z59 z60 z61 n0 n1 n49 n50 n51 n52 n53 n54 n57 n58 n62 n63 g n (F_m_fails g n rs 5))) s H locs := hw
    refine W.eq (g2 := F0 m 21 ls [.int 0]) rfl ?_
    have hE : (F_m_readsThought g n rs a) = (0, (F_m_fails g n rs 5), a) := by unfold F_m_readsThought; rw [if_pos c_160]
    have hw : kW γ A ((mWa γ z10 z11 z12 z13 z14 z15 z16 z17 z18 z19 z22 z23 ((F_m_readsThought g n rs a).2.2)) ++ (mWz γ z z2 z10 z11 z12 z13 z14 z15 z16 z17 z18 z19 z22 z23 z24 z25 z26 z27 z28 z29 z30 z31 z32 z33 z36 z37 z38 z39 z40 z41 z42 z43 z44 z45 z46 z47 z48 z55 z56 z59 z60 z61 n0 n1 n49 n50 n51 n52 n53 n54 n57 n58 n62 n63 g n ((F_m_readsThought g n rs a).2.1))) s H locs := by first | (rw [hE]; exact hw) | exact hw
    exact k_zret hC hr hlocks rfl hw [12, 13, 0, 1, 2, 3, 4, 5, 6, 7, 8, 9, 10, 11] rfl rfl ⟨by rw [hE], rfl⟩ (by decide) (by decide) dX12_readsThought_21

def F_m_readsFollows (g : Nat → Int32) (n : Nat) (rs : mRS) (a : mAS) : Int32 × mRS × mAS :=
  if ((F_m_needsThought1 g n (mv g n rs) a).1) = 0 then (0, ((F_m_needsThought1 g n (mv g n rs) a).2), a) else (if ((F_m_needsThought1 g n (mv g n ((F_m_needsThought1 g n (mv g n rs) a).2)) a).1) = 0 then (0, ((F_m_needsThought1 g n (mv g n ((F_m_needsThought1 g n (mv g n rs) a).2)) a).2), a) else (if ((((a.2.2.2.2.2.1) ((8 + (((F_m_needsThought1 g n (mv g n ((F_m_needsThought1 g n (mv g n rs) a).2)) a).2).2.2.1)) : Int32).toNatClampNeg) >>> ((((F_m_needsThought1 g n (mv g n rs) a).2).2.2.1) &&& 31)) &&& 1) = 1 then (0, (F_m_fails g n ((F_m_needsThought1 g n (mv g n ((F_m_needsThought1 g n (mv g n rs) a).2)) a).2) 3), a) else (((F_m_closes g n (mv g n ((F_m_needsThought1 g n (mv g n ((F_m_needsThought1 g n (mv g n rs) a).2)) a).2))).1), ((F_m_closes g n (mv g n ((F_m_needsThought1 g n (mv g n ((F_m_needsThought1 g n (mv g n rs) a).2)) a).2))).2), ((a.1), (a.2.1), (a.2.2.1), (a.2.2.2.1), (a.2.2.2.2.1), (upd (a.2.2.2.2.2.1) ((8 + (((F_m_needsThought1 g n (mv g n ((F_m_needsThought1 g n (mv g n rs) a).2)) a).2).2.2.1)) : Int32).toNatClampNeg (((a.2.2.2.2.2.1) ((8 + (((F_m_needsThought1 g n (mv g n ((F_m_needsThought1 g n (mv g n rs) a).2)) a).2).2.2.1)) : Int32).toNatClampNeg) ||| (1 <<< ((((F_m_needsThought1 g n (mv g n rs) a).2).2.2.1) &&& 31)))), (a.2.2.2.2.2.2.1), (a.2.2.2.2.2.2.2.1), (a.2.2.2.2.2.2.2.2.1), (a.2.2.2.2.2.2.2.2.2.1), (a.2.2.2.2.2.2.2.2.2.2.1), (a.2.2.2.2.2.2.2.2.2.2.2)))))
set_option maxHeartbeats 4000000 in
set_option maxRecDepth 100000 in
theorem c_m_readsFollows (γ : kΓ) (l : Launch) (z : Nat) (z2 : Nat) (z10 : Nat) (z11 : Nat) (z12 : Nat) (z13 : Nat) (z14 : Nat) (z15 : Nat) (z16 : Nat) (z17 : Nat) (z18 : Nat) (z19 : Nat) (z22 : Nat) (z23 : Nat) (z24 : Nat) (z25 : Nat) (z26 : Nat) (z27 : Nat) (z28 : Nat) (z29 : Nat) (z30 : Nat) (z31 : Nat) (z32 : Nat) (z33 : Nat) (z36 : Nat) (z37 : Nat) (z38 : Nat) (z39 : Nat) (z40 : Nat) (z41 : Nat) (z42 : Nat) (z43 : Nat) (z44 : Nat) (z45 : Nat) (z46 : Nat) (z47 : Nat) (z48 : Nat) (z55 : Nat) (z56 : Nat) (z59 : Nat) (z60 : Nat) (z61 : Nat) (n0 : Int32) (n1 : Int32) (n49 : Int32) (n50 : Int32) (n51 : Int32) (n52 : Int32) (n53 : Int32) (n54 : Int32) (n57 : Int32) (n58 : Int32) (n62 : Int32) (n63 : Int64) (n : Nat) (g : Nat → Int32) (rs : mRS) (a : mAS) (hn : n ≤ 1000) (hM : mOK a) : kM γ l yX12_readsFollows cX12_readsFollows 2 ((some .boolean)) ({ frames := 3, cells := 0, slots := 0, locals := 81 } : Room) [.ref z] ((mWz γ z z2 z10 z11 z12 z13 z14 z15 z16 z17 z18 z19 z22 z23 z24 z25 z26 z27 z28 z29 z30 z31 z32 z33 z36 z37 z38 z39 z40 z41 z42 z43 z44 z45 z46 z47 z48 z55 z56 z59 z60 z61 n0 n1 n49 n50 n51 n52 n53 n54 n57 n58 n62 n63 g n rs) ++ (mWa γ z10 z11 z12 z13 z14 z15 z16 z17 z18 z19 z22 z23 a)) (fun r w1 => r = some (.int ((F_m_readsFollows g n rs a).1)) ∧ w1 = ((mWz γ z z2 z10 z11 z12 z13 z14 z15 z16 z17 z18 z19 z22 z23 z24 z25 z26 z27 z28 z29 z30 z31 z32 z33 z36 z37 z38 z39 z40 z41 z42 z43 z44 z45 z46 z47 z48 z55 z56 z59 z60 z61 n0 n1 n49 n50 n51 n52 n53 n54 n57 n58 n62 n63 g n ((F_m_readsFollows g n rs a).2.1)) ++ (mWa γ z10 z11 z12 z13 z14 z15 z16 z17 z18 z19 z22 z23 ((F_m_readsFollows g n rs a).2.2)))) := by
  refine k_ofW (by decide) (Nat.le_of_ble_eq_true rfl) ?_
  intro p9 e s m below meth c A ls hC hr hlocks hname hw hl
  have hx := hC.1
  have hb := hC.2.1
  have hl : lv_has ls 2 [(0, .ref z)] := hl
  refine lv_aload_n hx hb dX12_readsFollows_0 rfl (lv_at hl 0 rfl) ?_
  refine k_V (wr := (mWa γ z10 z11 z12 z13 z14 z15 z16 z17 z18 z19 z22 z23 a)) 0 gw_1402 gw_1404 gp_54 gw_15 gw_1405 hd_X12_nextToken hC hw (c_mv γ l z z2 z10 z11 z12 z13 z14 z15 z16 z17 z18 z19 z22 z23 z24 z25 z26 z27 z28 z29 z30 z31 z32 z33 z36 z37 z38 z39 z40 z41 z42 z43 z44 z45 z46 z47 z48 z55 z56 z59 z60 z61 n0 n1 n49 n50 n51 n52 n53 n54 n57 n58 n62 n63 n g rs hn) ⟨by decide, by decide⟩ ⟨by decide, by decide⟩ hl.1 rfl 0 rfl rfl rfl (Nat.le_of_ble_eq_true rfl) [0, 1] [2, 3, 4, 5, 6, 7, 8, 9, 10, 11, 12, 13] rfl rfl rfl rfl (by decide) dX12_readsFollows_1 (fun r w1 H locs hq hw => ?_)
  obtain ⟨rfl, rfl⟩ := hq
  have hw : kW γ A ((mWa γ z10 z11 z12 z13 z14 z15 z16 z17 z18 z19 z22 z23 a) ++ (mWz γ z z2 z10 z11 z12 z13 z14 z15 z16 z17 z18 z19 z22 z23 z24 z25 z26 z27 z28 z29 z30 z31 z32 z33 z36 z37 z38 z39 z40 z41 z42 z43 z44 z45 z46 z47 z48 z55 z56 z59 z60 z61 n0 n1 n49 n50 n51 n52 n53 n54 n57 n58 n62 n63 g n (mv g n rs))) s H locs := hw
  refine W.eq (g2 := F0 m 4 ls []) rfl ?_
  refine lv_aload_n hx hb dX12_readsFollows_4 rfl (lv_at hl 0 rfl) ?_
  refine lv_iconst (v := 1) hx hb dX12_readsFollows_5 (by decide) ?_
  refine k_V (wr := []) 1 gw_1483 gw_1485 gp_68 gw_15 gw_1486 hd_X12_needsThought hC hw (c_m_needsThought1 γ l z z2 z10 z11 z12 z13 z14 z15 z16 z17 z18 z19 z22 z23 z24 z25 z26 z27 z28 z29 z30 z31 z32 z33 z36 z37 z38 z39 z40 z41 z42 z43 z44 z45 z46 z47 z48 z55 z56 z59 z60 z61 n0 n1 n49 n50 n51 n52 n53 n54 n57 n58 n62 n63 n g (mv g n rs) a hn hM) ⟨by decide, by decide⟩ ⟨by decide, by decide⟩ hl.1 rfl 12 rfl rfl rfl (Nat.le_of_ble_eq_true rfl) [12, 13, 0, 1, 2, 3, 4, 5, 6, 7, 8, 9, 10, 11] [] rfl rfl rfl rfl (by decide) dX12_readsFollows_6 (fun r w1 H locs hq hw => ?_)
  obtain ⟨rfl, rfl⟩ := hq
  have hw : kW γ A ((mWz γ z z2 z10 z11 z12 z13 z14 z15 z16 z17 z18 z19 z22 z23 z24 z25 z26 z27 z28 z29 z30 z31 z32 z33 z36 z37 z38 z39 z40 z41 z42 z43 z44 z45 z46 z47 z48 z55 z56 z59 z60 z61 n0 n1 n49 n50 n51 n52 n53 n54 n57 n58 n62 n63 g n ((F_m_needsThought1 g n (mv g n rs) a).2)) ++ (mWa γ z10 z11 z12 z13 z14 z15 z16 z17 z18 z19 z22 z23 a)) s H locs := hw
  refine W.eq (g2 := F0 m 9 ls [.int ((F_m_needsThought1 g n (mv g n rs) a).1)]) rfl ?_
  refine lv_if_ne (tgt := 14) hx hb dX12_readsFollows_9 (by decide) (fun c_168 => ?_) (fun c_168 => ?_)
  · refine lv_aload_n hx hb dX12_readsFollows_14 rfl (lv_at hl 0 rfl) ?_
    refine fg_RX12_266 hC hw 0 rfl rfl dX12_readsFollows_15 ?_
    refine lv_istore_n (lv' := [(1, .int (((F_m_needsThought1 g n (mv g n rs) a).2).2.2.1)), (0, .ref z)]) hx hb dX12_readsFollows_18 rfl hl (by decide) rfl (fun ls hl => ?_)
    refine lv_aload_n hx hb dX12_readsFollows_19 rfl (lv_at hl 1 rfl) ?_
    refine k_V (wr := (mWa γ z10 z11 z12 z13 z14 z15 z16 z17 z18 z19 z22 z23 a)) 0 gw_1402 gw_1404 gp_54 gw_15 gw_1405 hd_X12_nextToken hC hw (c_mv γ l z z2 z10 z11 z12 z13 z14 z15 z16 z17 z18 z19 z22 z23 z24 z25 z26 z27 z28 z29 z30 z31 z32 z33 z36 z37 z38 z39 z40 z41 z42 z43 z44 z45 z46 z47 z48 z55 z56 z59 z60 z61 n0 n1 n49 n50 n51 n52 n53 n54 n57 n58 n62 n63 n g ((F_m_needsThought1 g n (mv g n rs) a).2) hn) ⟨by decide, by decide⟩ ⟨by decide, by decide⟩ hl.1 rfl 0 rfl rfl rfl (Nat.le_of_ble_eq_true rfl) [0, 1] [2, 3, 4, 5, 6, 7, 8, 9, 10, 11, 12, 13] rfl rfl rfl rfl (by decide) dX12_readsFollows_20 (fun r w1 H locs hq hw => ?_)
    obtain ⟨rfl, rfl⟩ := hq
    have hw : kW γ A ((mWa γ z10 z11 z12 z13 z14 z15 z16 z17 z18 z19 z22 z23 a) ++ (mWz γ z z2 z10 z11 z12 z13 z14 z15 z16 z17 z18 z19 z22 z23 z24 z25 z26 z27 z28 z29 z30 z31 z32 z33 z36 z37 z38 z39 z40 z41 z42 z43 z44 z45 z46 z47 z48 z55 z56 z59 z60 z61 n0 n1 n49 n50 n51 n52 n53 n54 n57 n58 n62 n63 g n (mv g n ((F_m_needsThought1 g n (mv g n rs) a).2)))) s H locs := hw
    refine W.eq (g2 := F0 m 23 ls []) rfl ?_
    refine lv_aload_n hx hb dX12_readsFollows_23 rfl (lv_at hl 1 rfl) ?_
    refine lv_iconst (v := 1) hx hb dX12_readsFollows_24 (by decide) ?_
    refine k_V (wr := []) 1 gw_1483 gw_1485 gp_68 gw_15 gw_1486 hd_X12_needsThought hC hw (c_m_needsThought1 γ l z z2 z10 z11 z12 z13 z14 z15 z16 z17 z18 z19 z22 z23 z24 z25 z26 z27 z28 z29 z30 z31 z32 z33 z36 z37 z38 z39 z40 z41 z42 z43 z44 z45 z46 z47 z48 z55 z56 z59 z60 z61 n0 n1 n49 n50 n51 n52 n53 n54 n57 n58 n62 n63 n g (mv g n ((F_m_needsThought1 g n (mv g n rs) a).2)) a hn hM) ⟨by decide, by decide⟩ ⟨by decide, by decide⟩ hl.1 rfl 12 rfl rfl rfl (Nat.le_of_ble_eq_true rfl) [12, 13, 0, 1, 2, 3, 4, 5, 6, 7, 8, 9, 10, 11] [] rfl rfl rfl rfl (by decide) dX12_readsFollows_25 (fun r w1 H locs hq hw => ?_)
    obtain ⟨rfl, rfl⟩ := hq
    have hw : kW γ A ((mWz γ z z2 z10 z11 z12 z13 z14 z15 z16 z17 z18 z19 z22 z23 z24 z25 z26 z27 z28 z29 z30 z31 z32 z33 z36 z37 z38 z39 z40 z41 z42 z43 z44 z45 z46 z47 z48 z55 z56 z59 z60 z61 n0 n1 n49 n50 n51 n52 n53 n54 n57 n58 n62 n63 g n ((F_m_needsThought1 g n (mv g n ((F_m_needsThought1 g n (mv g n rs) a).2)) a).2)) ++ (mWa γ z10 z11 z12 z13 z14 z15 z16 z17 z18 z19 z22 z23 a)) s H locs := hw
    refine W.eq (g2 := F0 m 28 ls [.int ((F_m_needsThought1 g n (mv g n ((F_m_needsThought1 g n (mv g n rs) a).2)) a).1)]) rfl ?_
    refine lv_if_ne (tgt := 33) hx hb dX12_readsFollows_28 (by decide) (fun c_169 => ?_) (fun c_169 => ?_)
    · refine lv_aload_n hx hb dX12_readsFollows_33 rfl (lv_at hl 1 rfl) ?_
      refine fg_RX12_29 hC hw 0 rfl rfl dX12_readsFollows_34 ?_
      refine lv_bipush (v := 8) hx hb dX12_readsFollows_37 (by decide) ?_
      refine lv_aload_n hx hb dX12_readsFollows_39 rfl (lv_at hl 1 rfl) ?_
      refine fg_RX12_266 hC hw 0 rfl rfl dX12_readsFollows_40 ?_
      refine lv_iadd hx hb dX12_readsFollows_43 ?_
      refine k_iald hC hw 7 rfl (nt_in hM c_169) dX12_readsFollows_44 ?_
      refine lv_iload_n hx hb dX12_readsFollows_45 rfl (lv_at hl 0 rfl) ?_
      refine lv_ishr hx hb dX12_readsFollows_46 ?_
      refine lv_iconst (v := 1) hx hb dX12_readsFollows_47 (by decide) ?_
      refine lv_iand hx hb dX12_readsFollows_48 ?_
      refine lv_iconst (v := 1) hx hb dX12_readsFollows_49 (by decide) ?_
      refine lv_icmp_ne (tgt := 59) hx hb dX12_readsFollows_50 (by decide) (fun c_170 => ?_) (fun c_170 => ?_)
      · refine lv_aload_n hx hb dX12_readsFollows_59 rfl (lv_at hl 1 rfl) ?_
        refine fg_RX12_29 hC hw 0 rfl rfl dX12_readsFollows_60 ?_
        refine lv_bipush (v := 8) hx hb dX12_readsFollows_63 (by decide) ?_
        refine lv_aload_n hx hb dX12_readsFollows_65 rfl (lv_at hl 1 rfl) ?_
        refine fg_RX12_266 hC hw 0 rfl rfl dX12_readsFollows_66 ?_
        refine lv_iadd hx hb dX12_readsFollows_69 ?_
        refine lv_dup2_11 hx hb dX12_readsFollows_70 rfl rfl ?_
        refine k_iald hC hw 7 rfl (nt_in hM c_169) dX12_readsFollows_71 ?_
        refine lv_iconst (v := 1) hx hb dX12_readsFollows_72 (by decide) ?_
        refine lv_iload_n hx hb dX12_readsFollows_73 rfl (lv_at hl 0 rfl) ?_
        refine lv_ishl hx hb dX12_readsFollows_74 ?_
        refine lv_ior hx hb dX12_readsFollows_75 ?_
        refine k_iast hC hw 7 rfl (nt_in hM c_169) dX12_readsFollows_76 (fun H locs hw => ?_)
        have hw : kW γ A ((mWz γ z z2 z10 z11 z12 z13 z14 z15 z16 z17 z18 z19 z22 z23 z24 z25 z26 z27 z28 z29 z30 z31 z32 z33 z36 z37 z38 z39 z40 z41 z42 z43 z44 z45 z46 z47 z48 z55 z56 z59 z60 z61 n0 n1 n49 n50 n51 n52 n53 n54 n57 n58 n62 n63 g n ((F_m_needsThought1 g n (mv g n ((F_m_needsThought1 g n (mv g n rs) a).2)) a).2)) ++ (mWa γ z10 z11 z12 z13 z14 z15 z16 z17 z18 z19 z22 z23 ((a.1), (a.2.1), (a.2.2.1), (a.2.2.2.1), (a.2.2.2.2.1), (upd (a.2.2.2.2.2.1) ((8 + (((F_m_needsThought1 g n (mv g n ((F_m_needsThought1 g n (mv g n rs) a).2)) a).2).2.2.1)) : Int32).toNatClampNeg (((a.2.2.2.2.2.1) ((8 + (((F_m_needsThought1 g n (mv g n ((F_m_needsThought1 g n (mv g n rs) a).2)) a).2).2.2.1)) : Int32).toNatClampNeg) ||| (1 <<< ((((F_m_needsThought1 g n (mv g n rs) a).2).2.2.1) &&& 31)))), (a.2.2.2.2.2.2.1), (a.2.2.2.2.2.2.2.1), (a.2.2.2.2.2.2.2.2.1), (a.2.2.2.2.2.2.2.2.2.1), (a.2.2.2.2.2.2.2.2.2.2.1), (a.2.2.2.2.2.2.2.2.2.2.2)))) s H locs := hw
        refine lv_aload_n hx hb dX12_readsFollows_77 rfl (lv_at hl 1 rfl) ?_
        refine k_V (wr := (mWa γ z10 z11 z12 z13 z14 z15 z16 z17 z18 z19 z22 z23 ((a.1), (a.2.1), (a.2.2.1), (a.2.2.2.1), (a.2.2.2.2.1), (upd (a.2.2.2.2.2.1) ((8 + (((F_m_needsThought1 g n (mv g n ((F_m_needsThought1 g n (mv g n rs) a).2)) a).2).2.2.1)) : Int32).toNatClampNeg (((a.2.2.2.2.2.1) ((8 + (((F_m_needsThought1 g n (mv g n ((F_m_needsThought1 g n (mv g n rs) a).2)) a).2).2.2.1)) : Int32).toNatClampNeg) ||| (1 <<< ((((F_m_needsThought1 g n (mv g n rs) a).2).2.2.1) &&& 31)))), (a.2.2.2.2.2.2.1), (a.2.2.2.2.2.2.2.1), (a.2.2.2.2.2.2.2.2.1), (a.2.2.2.2.2.2.2.2.2.1), (a.2.2.2.2.2.2.2.2.2.2.1), (a.2.2.2.2.2.2.2.2.2.2.2)))) 0 gw_1402 gw_1404 gp_54 gw_15 gw_1405 hd_X12_nextToken hC hw (c_mv γ l z z2 z10 z11 z12 z13 z14 z15 z16 z17 z18 z19 z22 z23 z24 z25 z26 z27 z28 z29 z30 z31 z32 z33 z36 z37 z38 z39 z40 z41 z42 z43 z44 z45 z46 z47 z48 z55 z56 z59 z60 z61 n0 n1 n49 n50 n51 n52 n53 n54 n57 n58 n62 n63 n g ((F_m_needsThought1 g n (mv g n ((F_m_needsThought1 g n (mv g n rs) a).2)) a).2) hn) ⟨by decide, by decide⟩ ⟨by decide, by decide⟩ hl.1 rfl 0 rfl rfl rfl (Nat.le_of_ble_eq_true rfl) [0, 1] [2, 3, 4, 5, 6, 7, 8, 9, 10, 11, 12, 13] rfl rfl rfl rfl (by decide) dX12_readsFollows_78 (fun r w1 H locs hq hw => ?_)
        obtain ⟨rfl, rfl⟩ := hq
        have hw : kW γ A ((mWa γ z10 z11 z12 z13 z14 z15 z16 z17 z18 z19 z22 z23 ((a.1), (a.2.1), (a.2.2.1), (a.2.2.2.1), (a.2.2.2.2.1), (upd (a.2.2.2.2.2.1) ((8 + (((F_m_needsThought1 g n (mv g n ((F_m_needsThought1 g n (mv g n rs) a).2)) a).2).2.2.1)) : Int32).toNatClampNeg (((a.2.2.2.2.2.1) ((8 + (((F_m_needsThought1 g n (mv g n ((F_m_needsThought1 g n (mv g n rs) a).2)) a).2).2.2.1)) : Int32).toNatClampNeg) ||| (1 <<< ((((F_m_needsThought1 g n (mv g n rs) a).2).2.2.1) &&& 31)))), (a.2.2.2.2.2.2.1), (a.2.2.2.2.2.2.2.1), (a.2.2.2.2.2.2.2.2.1), (a.2.2.2.2.2.2.2.2.2.1), (a.2.2.2.2.2.2.2.2.2.2.1), (a.2.2.2.2.2.2.2.2.2.2.2))) ++ (mWz γ z z2 z10 z11 z12 z13 z14 z15 z16 z17 z18 z19 z22 z23 z24 z25 z26 z27 z28 z29 z30 z31 z32 z33 z36 z37 z38 z39 z40 z41 z42 z43 z44 z45 z46 z47 z48 z55 z56 z59 z60 z61 n0 n1 n49 n50 n51 n52 n53 n54 n57 n58 n62 n63 g n (mv g n ((F_m_needsThought1 g n (mv g n ((F_m_needsThought1 g n (mv g n rs) a).2)) a).2)))) s H locs := hw
        refine W.eq (g2 := F0 m 81 ls []) rfl ?_
        refine lv_aload_n hx hb dX12_readsFollows_81 rfl (lv_at hl 1 rfl) ?_
        refine k_V (wr := (mWa γ z10 z11 z12 z13 z14 z15 z16 z17 z18 z19 z22 z23 ((a.1), (a.2.1), (a.2.2.1), (a.2.2.2.1), (a.2.2.2.2.1), (upd (a.2.2.2.2.2.1) ((8 + (((F_m_needsThought1 g n (mv g n ((F_m_needsThought1 g n (mv g n rs) a).2)) a).2).2.2.1)) : Int32).toNatClampNeg (((a.2.2.2.2.2.1) ((8 + (((F_m_needsThought1 g n (mv g n ((F_m_needsThought1 g n (mv g n rs) a).2)) a).2).2.2.1)) : Int32).toNatClampNeg) ||| (1 <<< ((((F_m_needsThought1 g n (mv g n rs) a).2).2.2.1) &&& 31)))), (a.2.2.2.2.2.2.1), (a.2.2.2.2.2.2.2.1), (a.2.2.2.2.2.2.2.2.1), (a.2.2.2.2.2.2.2.2.2.1), (a.2.2.2.2.2.2.2.2.2.2.1), (a.2.2.2.2.2.2.2.2.2.2.2)))) 0 gw_1471 gw_1473 gp_65 gw_15 gw_1474 hd_X12_closes hC hw (c_m_closes γ l z z2 z10 z11 z12 z13 z14 z15 z16 z17 z18 z19 z22 z23 z24 z25 z26 z27 z28 z29 z30 z31 z32 z33 z36 z37 z38 z39 z40 z41 z42 z43 z44 z45 z46 z47 z48 z55 z56 z59 z60 z61 n0 n1 n49 n50 n51 n52 n53 n54 n57 n58 n62 n63 n g (mv g n ((F_m_needsThought1 g n (mv g n ((F_m_needsThought1 g n (mv g n rs) a).2)) a).2)) hn) ⟨by decide, by decide⟩ ⟨by decide, by decide⟩ hl.1 rfl 12 rfl rfl rfl (Nat.le_of_ble_eq_true rfl) [12, 13] [0, 1, 2, 3, 4, 5, 6, 7, 8, 9, 10, 11] rfl rfl rfl rfl (by decide) dX12_readsFollows_82 (fun r w1 H locs hq hw => ?_)
        obtain ⟨rfl, rfl⟩ := hq
        have hw : kW γ A ((mWa γ z10 z11 z12 z13 z14 z15 z16 z17 z18 z19 z22 z23 ((a.1), (a.2.1), (a.2.2.1), (a.2.2.2.1), (a.2.2.2.2.1), (upd (a.2.2.2.2.2.1) ((8 + (((F_m_needsThought1 g n (mv g n ((F_m_needsThought1 g n (mv g n rs) a).2)) a).2).2.2.1)) : Int32).toNatClampNeg (((a.2.2.2.2.2.1) ((8 + (((F_m_needsThought1 g n (mv g n ((F_m_needsThought1 g n (mv g n rs) a).2)) a).2).2.2.1)) : Int32).toNatClampNeg) ||| (1 <<< ((((F_m_needsThought1 g n (mv g n rs) a).2).2.2.1) &&& 31)))), (a.2.2.2.2.2.2.1), (a.2.2.2.2.2.2.2.1), (a.2.2.2.2.2.2.2.2.1), (a.2.2.2.2.2.2.2.2.2.1), (a.2.2.2.2.2.2.2.2.2.2.1), (a.2.2.2.2.2.2.2.2.2.2.2))) ++ (mWz γ z z2 z10 z11 z12 z13 z14 z15 z16 z17 z18 z19 z22 z23 z24 z25 z26 z27 z28 z29 z30 z31 z32 z33 z36 z37 z38 z39 z40 z41 z42 z43 z44 z45 z46 z47 z48 z55 z56 z59 z60 z61 n0 n1 n49 n50 n51 n52 n53 n54 n57 n58 n62 n63 g n ((F_m_closes g n (mv g n ((F_m_needsThought1 g n (mv g n ((F_m_needsThought1 g n (mv g n rs) a).2)) a).2))).2))) s H locs := hw
        refine W.eq (g2 := F0 m 85 ls [.int ((F_m_closes g n (mv g n ((F_m_needsThought1 g n (mv g n ((F_m_needsThought1 g n (mv g n rs) a).2)) a).2))).1)]) rfl ?_
        have hE : (F_m_readsFollows g n rs a) = (((F_m_closes g n (mv g n ((F_m_needsThought1 g n (mv g n ((F_m_needsThought1 g n (mv g n rs) a).2)) a).2))).1), ((F_m_closes g n (mv g n ((F_m_needsThought1 g n (mv g n ((F_m_needsThought1 g n (mv g n rs) a).2)) a).2))).2), ((a.1), (a.2.1), (a.2.2.1), (a.2.2.2.1), (a.2.2.2.2.1), (upd (a.2.2.2.2.2.1) ((8 + (((F_m_needsThought1 g n (mv g n ((F_m_needsThought1 g n (mv g n rs) a).2)) a).2).2.2.1)) : Int32).toNatClampNeg (((a.2.2.2.2.2.1) ((8 + (((F_m_needsThought1 g n (mv g n ((F_m_needsThought1 g n (mv g n rs) a).2)) a).2).2.2.1)) : Int32).toNatClampNeg) ||| (1 <<< ((((F_m_needsThought1 g n (mv g n rs) a).2).2.2.1) &&& 31)))), (a.2.2.2.2.2.2.1), (a.2.2.2.2.2.2.2.1), (a.2.2.2.2.2.2.2.2.1), (a.2.2.2.2.2.2.2.2.2.1), (a.2.2.2.2.2.2.2.2.2.2.1), (a.2.2.2.2.2.2.2.2.2.2.2))) := by unfold F_m_readsFollows; rw [if_neg c_168, if_neg c_169, if_neg c_170]
        have hw : kW γ A ((mWa γ z10 z11 z12 z13 z14 z15 z16 z17 z18 z19 z22 z23 ((F_m_readsFollows g n rs a).2.2)) ++ (mWz γ z z2 z10 z11 z12 z13 z14 z15 z16 z17 z18 z19 z22 z23 z24 z25 z26 z27 z28 z29 z30 z31 z32 z33 z36 z37 z38 z39 z40 z41 z42 z43 z44 z45 z46 z47 z48 z55 z56 z59 z60 z61 n0 n1 n49 n50 n51 n52 n53 n54 n57 n58 n62 n63 g n ((F_m_readsFollows g n rs a).2.1))) s H locs := by first | (rw [hE]; exact hw) | exact hw
        exact k_zret hC hr hlocks (zb b_closes) hw [12, 13, 0, 1, 2, 3, 4, 5, 6, 7, 8, 9, 10, 11] rfl rfl ⟨by rw [hE], rfl⟩ (by decide) (by decide) dX12_readsFollows_85
      · refine lv_aload_n hx hb dX12_readsFollows_53 rfl (lv_at hl 1 rfl) ?_
        refine lv_iconst (v := 3) hx hb dX12_readsFollows_54 (by decide) ?_
        refine k_V (wr := (mWa γ z10 z11 z12 z13 z14 z15 z16 z17 z18 z19 z22 z23 a)) 1 gw_1421 gw_1423 gp_58 gw_15 gw_1424 hd_X12_fails hC hw (c_m_fails γ l z z2 z10 z11 z12 z13 z14 z15 z16 z17 z18 z19 z22 z23 z24 z25 z26 z27 z28 z29 z30 z31 z32 z33 z36 z37 z38 z39 z40 z41 z42 z43 z44 z45 z46 z47 z48 z55 z56 z59 z60 z61 n0 n1 n49 n50 n51 n52 n53 n54 n57 n58 n62 n63 n g ((F_m_needsThought1 g n (mv g n ((F_m_needsThought1 g n (mv g n rs) a).2)) a).2) 3 hn) ⟨by decide, by decide⟩ ⟨by decide, by decide⟩ hl.1 rfl 0 rfl rfl rfl (Nat.le_of_ble_eq_true rfl) [0, 1] [2, 3, 4, 5, 6, 7, 8, 9, 10, 11, 12, 13] rfl rfl rfl rfl (by decide) dX12_readsFollows_55 (fun r w1 H locs hq hw => ?_)
        obtain ⟨rfl, rfl⟩ := hq
        have hw : kW γ A ((mWa γ z10 z11 z12 z13 z14 z15 z16 z17 z18 z19 z22 z23 a) ++ (mWz γ z z2 z10 z11 z12 z13 z14 z15 z16 z17 z18 z19 z22 z23 z24 z25 z26 z27 z28 z29 z30 z31 z32 z33 z36 z37 z38 z39 z40 z41 z42 z43 z44 z45 z46 z47 z48 z55 z56 z59 z60 z61 n0 n1 n49 n50 n51 n52 n53 n54 n57 n58 n62 n63 g n (F_m_fails g n ((F_m_needsThought1 g n (mv g n ((F_m_needsThought1 g n (mv g n rs) a).2)) a).2) 3))) s H locs := hw
        refine W.eq (g2 := F0 m 58 ls [.int 0]) rfl ?_
        have hE : (F_m_readsFollows g n rs a) = (0, (F_m_fails g n ((F_m_needsThought1 g n (mv g n ((F_m_needsThought1 g n (mv g n rs) a).2)) a).2) 3), a) := by unfold F_m_readsFollows; rw [if_neg c_168, if_neg c_169, if_pos c_170]
        have hw : kW γ A ((mWa γ z10 z11 z12 z13 z14 z15 z16 z17 z18 z19 z22 z23 ((F_m_readsFollows g n rs a).2.2)) ++ (mWz γ z z2 z10 z11 z12 z13 z14 z15 z16 z17 z18 z19 z22 z23 z24 z25 z26 z27 z28 z29 z30 z31 z32 z33 z36 z37 z38 z39 z40 z41 z42 z43 z44 z45 z46 z47 z48 z55 z56 z59 z60 z61 n0 n1 n49 n50 n51 n52 n53 n54 n57 n58 n62 n63 g n ((F_m_readsFollows g n rs a).2.1))) s H locs := by first | (rw [hE]; exact hw) | exact hw
        exact k_zret hC hr hlocks rfl hw [12, 13, 0, 1, 2, 3, 4, 5, 6, 7, 8, 9, 10, 11] rfl rfl ⟨by rw [hE], rfl⟩ (by decide) (by decide) dX12_readsFollows_58
    · refine lv_iconst (v := 0) hx hb dX12_readsFollows_31 (by decide) ?_
      have hE : (F_m_readsFollows g n rs a) = (0, ((F_m_needsThought1 g n (mv g n ((F_m_needsThought1 g n (mv g n rs) a).2)) a).2), a) := by unfold F_m_readsFollows; rw [if_neg c_168, if_pos c_169]
      have hw : kW γ A ((mWz γ z z2 z10 z11 z12 z13 z14 z15 z16 z17 z18 z19 z22 z23 z24 z25 z26 z27 z28 z29 z30 z31 z32 z33 z36 z37 z38 z39 z40 z41 z42 z43 z44 z45 z46 z47 z48 z55 z56 z59 z60 z61 n0 n1 n49 n50 n51 n52 n53 n54 n57 n58 n62 n63 g n ((F_m_readsFollows g n rs a).2.1)) ++ (mWa γ z10 z11 z12 z13 z14 z15 z16 z17 z18 z19 z22 z23 ((F_m_readsFollows g n rs a).2.2))) s H locs := by first | (rw [hE]; exact hw) | exact hw
      exact k_zret hC hr hlocks rfl hw [0, 1, 2, 3, 4, 5, 6, 7, 8, 9, 10, 11, 12, 13] rfl rfl ⟨by rw [hE], rfl⟩ (by decide) (by decide) dX12_readsFollows_32
  · refine lv_iconst (v := 0) hx hb dX12_readsFollows_12 (by decide) ?_
    have hE : (F_m_readsFollows g n rs a) = (0, ((F_m_needsThought1 g n (mv g n rs) a).2), a) := by unfold F_m_readsFollows; rw [if_pos c_168]
    have hw : kW γ A ((mWz γ z z2 z10 z11 z12 z13 z14 z15 z16 z17 z18 z19 z22 z23 z24 z25 z26 z27 z28 z29 z30 z31 z32 z33 z36 z37 z38 z39 z40 z41 z42 z43 z44 z45 z46 z47 z48 z55 z56 z59 z60 z61 n0 n1 n49 n50 n51 n52 n53 n54 n57 n58 n62 n63 g n ((F_m_readsFollows g n rs a).2.1)) ++ (mWa γ z10 z11 z12 z13 z14 z15 z16 z17 z18 z19 z22 z23 ((F_m_readsFollows g n rs a).2.2))) s H locs := by first | (rw [hE]; exact hw) | exact hw
    exact k_zret hC hr hlocks rfl hw [0, 1, 2, 3, 4, 5, 6, 7, 8, 9, 10, 11, 12, 13] rfl rfl ⟨by rw [hE], rfl⟩ (by decide) (by decide) dX12_readsFollows_13

def F_m_readsTenant (g : Nat → Int32) (n : Nat) (rs : mRS) (a : mAS) : Int32 × mRS × mAS :=
  if (5 + ((a.1) 6)) = 10 then (0, (F_m_fails g n rs 5), a) else (if ((F_m_needsNew g n (mv g n rs) a).1) = 0 then (0, ((F_m_needsNew g n (mv g n rs) a).2), a) else (if (F_m_isWord g n ((F_m_needsNew g n (mv g n rs) a).2) 8740238) = 0 then (if (F_m_isWord g n ((F_m_needsNew g n (mv g n rs) a).2) 277680074) = 0 then (if (F_m_isWord g n ((F_m_needsNew g n (mv g n rs) a).2) 49538619) = 0 then (if (F_m_isWord g n ((F_m_needsNew g n (mv g n rs) a).2) 269726508) = 0 then (0, (F_m_fails g n ((F_m_needsNew g n (mv g n rs) a).2) 1), ((a.1), (a.2.1), (a.2.2.1), (a.2.2.2.1), (a.2.2.2.2.1), (a.2.2.2.2.2.1), (upd (a.2.2.2.2.2.2.1) ((5 + ((a.1) 6)) : Int32).toNatClampNeg (-1)), (a.2.2.2.2.2.2.2.1), (a.2.2.2.2.2.2.2.2.1), (a.2.2.2.2.2.2.2.2.2.1), (a.2.2.2.2.2.2.2.2.2.2.1), (a.2.2.2.2.2.2.2.2.2.2.2))) else (((F_m_closes g n (mv g n ((F_m_needsNew g n (mv g n rs) a).2))).1), ((F_m_closes g n (mv g n ((F_m_needsNew g n (mv g n rs) a).2))).2), ((upd (a.1) 6 (((a.1) 6) + 1)), (a.2.1), (vp_updL (a.2.2.1) ((5 + ((a.1) 6)) : Int32).toNatClampNeg ((mv g n ((F_m_needsNew g n (mv g n rs) a).2)).2.2.2.1)), (a.2.2.2.1), (a.2.2.2.2.1), (a.2.2.2.2.2.1), (upd (a.2.2.2.2.2.2.1) ((5 + ((a.1) 6)) : Int32).toNatClampNeg 3), (a.2.2.2.2.2.2.2.1), (a.2.2.2.2.2.2.2.2.1), (a.2.2.2.2.2.2.2.2.2.1), (a.2.2.2.2.2.2.2.2.2.2.1), (a.2.2.2.2.2.2.2.2.2.2.2)))) else (((F_m_closes g n (mv g n ((F_m_needsNew g n (mv g n rs) a).2))).1), ((F_m_closes g n (mv g n ((F_m_needsNew g n (mv g n rs) a).2))).2), ((upd (a.1) 6 (((a.1) 6) + 1)), (a.2.1), (vp_updL (a.2.2.1) ((5 + ((a.1) 6)) : Int32).toNatClampNeg ((mv g n ((F_m_needsNew g n (mv g n rs) a).2)).2.2.2.1)), (a.2.2.2.1), (a.2.2.2.2.1), (a.2.2.2.2.2.1), (upd (a.2.2.2.2.2.2.1) ((5 + ((a.1) 6)) : Int32).toNatClampNeg 2), (a.2.2.2.2.2.2.2.1), (a.2.2.2.2.2.2.2.2.1), (a.2.2.2.2.2.2.2.2.2.1), (a.2.2.2.2.2.2.2.2.2.2.1), (a.2.2.2.2.2.2.2.2.2.2.2)))) else (((F_m_closes g n (mv g n ((F_m_needsNew g n (mv g n rs) a).2))).1), ((F_m_closes g n (mv g n ((F_m_needsNew g n (mv g n rs) a).2))).2), ((upd (a.1) 6 (((a.1) 6) + 1)), (a.2.1), (vp_updL (a.2.2.1) ((5 + ((a.1) 6)) : Int32).toNatClampNeg ((mv g n ((F_m_needsNew g n (mv g n rs) a).2)).2.2.2.1)), (a.2.2.2.1), (a.2.2.2.2.1), (a.2.2.2.2.2.1), (upd (a.2.2.2.2.2.2.1) ((5 + ((a.1) 6)) : Int32).toNatClampNeg 1), (a.2.2.2.2.2.2.2.1), (a.2.2.2.2.2.2.2.2.1), (a.2.2.2.2.2.2.2.2.2.1), (a.2.2.2.2.2.2.2.2.2.2.1), (a.2.2.2.2.2.2.2.2.2.2.2)))) else (((F_m_closes g n (mv g n ((F_m_needsNew g n (mv g n rs) a).2))).1), ((F_m_closes g n (mv g n ((F_m_needsNew g n (mv g n rs) a).2))).2), ((upd (a.1) 6 (((a.1) 6) + 1)), (a.2.1), (vp_updL (a.2.2.1) ((5 + ((a.1) 6)) : Int32).toNatClampNeg ((mv g n ((F_m_needsNew g n (mv g n rs) a).2)).2.2.2.1)), (a.2.2.2.1), (a.2.2.2.2.1), (a.2.2.2.2.2.1), (upd (a.2.2.2.2.2.2.1) ((5 + ((a.1) 6)) : Int32).toNatClampNeg 0), (a.2.2.2.2.2.2.2.1), (a.2.2.2.2.2.2.2.2.1), (a.2.2.2.2.2.2.2.2.2.1), (a.2.2.2.2.2.2.2.2.2.2.1), (a.2.2.2.2.2.2.2.2.2.2.2)))))
set_option maxHeartbeats 4000000 in
set_option maxRecDepth 100000 in
theorem c_m_readsTenant (γ : kΓ) (l : Launch) (z : Nat) (z2 : Nat) (z10 : Nat) (z11 : Nat) (z12 : Nat) (z13 : Nat) (z14 : Nat) (z15 : Nat) (z16 : Nat) (z17 : Nat) (z18 : Nat) (z19 : Nat) (z22 : Nat) (z23 : Nat) (z24 : Nat) (z25 : Nat) (z26 : Nat) (z27 : Nat) (z28 : Nat) (z29 : Nat) (z30 : Nat) (z31 : Nat) (z32 : Nat) (z33 : Nat) (z36 : Nat) (z37 : Nat) (z38 : Nat) (z39 : Nat) (z40 : Nat) (z41 : Nat) (z42 : Nat) (z43 : Nat) (z44 : Nat) (z45 : Nat) (z46 : Nat) (z47 : Nat) (z48 : Nat) (z55 : Nat) (z56 : Nat) (z59 : Nat) (z60 : Nat) (z61 : Nat) (n0 : Int32) (n1 : Int32) (n49 : Int32) (n50 : Int32) (n51 : Int32) (n52 : Int32) (n53 : Int32) (n54 : Int32) (n57 : Int32) (n58 : Int32) (n62 : Int32) (n63 : Int64) (n : Nat) (g : Nat → Int32) (rs : mRS) (a : mAS) (hn : n ≤ 1000) (hM : mOK a) : kM γ l yX12_readsTenant cX12_readsTenant 2 ((some .boolean)) ({ frames := 3, cells := 0, slots := 0, locals := 81 } : Room) [.ref z] ((mWz γ z z2 z10 z11 z12 z13 z14 z15 z16 z17 z18 z19 z22 z23 z24 z25 z26 z27 z28 z29 z30 z31 z32 z33 z36 z37 z38 z39 z40 z41 z42 z43 z44 z45 z46 z47 z48 z55 z56 z59 z60 z61 n0 n1 n49 n50 n51 n52 n53 n54 n57 n58 n62 n63 g n rs) ++ (mWa γ z10 z11 z12 z13 z14 z15 z16 z17 z18 z19 z22 z23 a)) (fun r w1 => r = some (.int ((F_m_readsTenant g n rs a).1)) ∧ w1 = ((mWz γ z z2 z10 z11 z12 z13 z14 z15 z16 z17 z18 z19 z22 z23 z24 z25 z26 z27 z28 z29 z30 z31 z32 z33 z36 z37 z38 z39 z40 z41 z42 z43 z44 z45 z46 z47 z48 z55 z56 z59 z60 z61 n0 n1 n49 n50 n51 n52 n53 n54 n57 n58 n62 n63 g n ((F_m_readsTenant g n rs a).2.1)) ++ (mWa γ z10 z11 z12 z13 z14 z15 z16 z17 z18 z19 z22 z23 ((F_m_readsTenant g n rs a).2.2)))) := by
  refine k_ofW (by decide) (Nat.le_of_ble_eq_true rfl) ?_
  intro p9 e s m below meth c A ls hC hr hlocks hname hw hl
  have hx := hC.1
  have hb := hC.2.1
  have hl : lv_has ls 2 [(0, .ref z)] := hl
  refine lv_iconst (v := 5) hx hb dX12_readsTenant_0 (by decide) ?_
  refine lv_aload_n hx hb dX12_readsTenant_1 rfl (lv_at hl 0 rfl) ?_
  refine fg_RX12_13 hC hw 0 rfl rfl dX12_readsTenant_2 ?_
  refine lv_bipush (v := 6) hx hb dX12_readsTenant_5 (by decide) ?_
  refine k_iald hC hw 2 rfl (k_in0 (by decide)) dX12_readsTenant_7 ?_
  refine lv_topi (fun x_187 ex_187 => ?_)
  obtain rfl : x_187 = ((a.1) 6) := ex_187
  refine lv_iadd hx hb dX12_readsTenant_8 ?_
  refine lv_istore_n (lv' := [(1, .int (5 + ((a.1) 6))), (0, .ref z)]) hx hb dX12_readsTenant_9 rfl hl (by decide) rfl (fun ls hl => ?_)
  refine lv_iload_n hx hb dX12_readsTenant_10 rfl (lv_at hl 0 rfl) ?_
  refine lv_bipush (v := 10) hx hb dX12_readsTenant_11 (by decide) ?_
  refine lv_icmp_ne (tgt := 22) hx hb dX12_readsTenant_13 (by decide) (fun c_188 => ?_) (fun c_188 => ?_)
  · refine lv_aload_n hx hb dX12_readsTenant_22 rfl (lv_at hl 1 rfl) ?_
    refine k_V (wr := (mWa γ z10 z11 z12 z13 z14 z15 z16 z17 z18 z19 z22 z23 a)) 0 gw_1402 gw_1404 gp_54 gw_15 gw_1405 hd_X12_nextToken hC hw (c_mv γ l z z2 z10 z11 z12 z13 z14 z15 z16 z17 z18 z19 z22 z23 z24 z25 z26 z27 z28 z29 z30 z31 z32 z33 z36 z37 z38 z39 z40 z41 z42 z43 z44 z45 z46 z47 z48 z55 z56 z59 z60 z61 n0 n1 n49 n50 n51 n52 n53 n54 n57 n58 n62 n63 n g rs hn) ⟨by decide, by decide⟩ ⟨by decide, by decide⟩ hl.1 rfl 0 rfl rfl rfl (Nat.le_of_ble_eq_true rfl) [0, 1] [2, 3, 4, 5, 6, 7, 8, 9, 10, 11, 12, 13] rfl rfl rfl rfl (by decide) dX12_readsTenant_23 (fun r w1 H locs hq hw => ?_)
    obtain ⟨rfl, rfl⟩ := hq
    have hw : kW γ A ((mWa γ z10 z11 z12 z13 z14 z15 z16 z17 z18 z19 z22 z23 a) ++ (mWz γ z z2 z10 z11 z12 z13 z14 z15 z16 z17 z18 z19 z22 z23 z24 z25 z26 z27 z28 z29 z30 z31 z32 z33 z36 z37 z38 z39 z40 z41 z42 z43 z44 z45 z46 z47 z48 z55 z56 z59 z60 z61 n0 n1 n49 n50 n51 n52 n53 n54 n57 n58 n62 n63 g n (mv g n rs))) s H locs := hw
    refine W.eq (g2 := F0 m 26 ls []) rfl ?_
    refine lv_aload_n hx hb dX12_readsTenant_26 rfl (lv_at hl 1 rfl) ?_
    refine k_V (wr := []) 0 gw_1425 gw_1427 gp_59 gw_15 gw_1428 hd_X12_needsNew hC hw (c_m_needsNew γ l z z2 z10 z11 z12 z13 z14 z15 z16 z17 z18 z19 z22 z23 z24 z25 z26 z27 z28 z29 z30 z31 z32 z33 z36 z37 z38 z39 z40 z41 z42 z43 z44 z45 z46 z47 z48 z55 z56 z59 z60 z61 n0 n1 n49 n50 n51 n52 n53 n54 n57 n58 n62 n63 n g (mv g n rs) a hn hM) ⟨by decide, by decide⟩ ⟨by decide, by decide⟩ hl.1 rfl 12 rfl rfl rfl (Nat.le_of_ble_eq_true rfl) [12, 13, 0, 1, 2, 3, 4, 5, 6, 7, 8, 9, 10, 11] [] rfl rfl rfl rfl (by decide) dX12_readsTenant_27 (fun r w1 H locs hq hw => ?_)
    obtain ⟨rfl, rfl⟩ := hq
    have hw : kW γ A ((mWz γ z z2 z10 z11 z12 z13 z14 z15 z16 z17 z18 z19 z22 z23 z24 z25 z26 z27 z28 z29 z30 z31 z32 z33 z36 z37 z38 z39 z40 z41 z42 z43 z44 z45 z46 z47 z48 z55 z56 z59 z60 z61 n0 n1 n49 n50 n51 n52 n53 n54 n57 n58 n62 n63 g n ((F_m_needsNew g n (mv g n rs) a).2)) ++ (mWa γ z10 z11 z12 z13 z14 z15 z16 z17 z18 z19 z22 z23 a)) s H locs := hw
    refine W.eq (g2 := F0 m 30 ls [.int ((F_m_needsNew g n (mv g n rs) a).1)]) rfl ?_
    refine lv_if_ne (tgt := 35) hx hb dX12_readsTenant_30 (by decide) (fun c_189 => ?_) (fun c_189 => ?_)
    · refine lv_aload_n hx hb dX12_readsTenant_35 rfl (lv_at hl 1 rfl) ?_
      refine fg_RX12_32 hC hw 0 rfl rfl dX12_readsTenant_36 ?_
      refine lv_iload_n hx hb dX12_readsTenant_39 rfl (lv_at hl 0 rfl) ?_
      refine lv_aload_n hx hb dX12_readsTenant_40 rfl (lv_at hl 1 rfl) ?_
      refine k_ldc2 hC gw_1445 dX12_readsTenant_41 ?_
      refine k_V (wr := (mWa γ z10 z11 z12 z13 z14 z15 z16 z17 z18 z19 z22 z23 a)) 1 gw_1413 gw_1415 gp_56 gw_15 gw_1416 hd_X12_isWord hC hw (c_m_isWord γ l z z2 z10 z11 z12 z13 z14 z15 z16 z17 z18 z19 z22 z23 z24 z25 z26 z27 z28 z29 z30 z31 z32 z33 z36 z37 z38 z39 z40 z41 z42 z43 z44 z45 z46 z47 z48 z55 z56 z59 z60 z61 n0 n1 n49 n50 n51 n52 n53 n54 n57 n58 n62 n63 n g ((F_m_needsNew g n (mv g n rs) a).2) 8740238 hn) ⟨by decide, by decide⟩ ⟨by decide, by decide⟩ hl.1 rfl 0 rfl rfl rfl (Nat.le_of_ble_eq_true rfl) [0, 1] [2, 3, 4, 5, 6, 7, 8, 9, 10, 11, 12, 13] rfl rfl rfl rfl (by decide) dX12_readsTenant_44 (fun r w1 H locs hq hw => ?_)
      obtain ⟨rfl, rfl⟩ := hq
      have hw : kW γ A ((mWa γ z10 z11 z12 z13 z14 z15 z16 z17 z18 z19 z22 z23 a) ++ (mWz γ z z2 z10 z11 z12 z13 z14 z15 z16 z17 z18 z19 z22 z23 z24 z25 z26 z27 z28 z29 z30 z31 z32 z33 z36 z37 z38 z39 z40 z41 z42 z43 z44 z45 z46 z47 z48 z55 z56 z59 z60 z61 n0 n1 n49 n50 n51 n52 n53 n54 n57 n58 n62 n63 g n ((F_m_needsNew g n (mv g n rs) a).2))) s H locs := hw
      refine W.eq (g2 := F0 m 47 ls [.int (F_m_isWord g n ((F_m_needsNew g n (mv g n rs) a).2) 8740238), .int (5 + ((a.1) 6)), .ref z16]) rfl ?_
      refine lv_if_eq (tgt := 54) hx hb dX12_readsTenant_47 (by decide) (fun c_190 => ?_) (fun c_190 => ?_)
      · refine lv_aload_n hx hb dX12_readsTenant_54 rfl (lv_at hl 1 rfl) ?_
        refine k_ldc2 hC gw_1446 dX12_readsTenant_55 ?_
        refine k_V (wr := (mWa γ z10 z11 z12 z13 z14 z15 z16 z17 z18 z19 z22 z23 a)) 1 gw_1413 gw_1415 gp_56 gw_15 gw_1416 hd_X12_isWord hC hw (c_m_isWord γ l z z2 z10 z11 z12 z13 z14 z15 z16 z17 z18 z19 z22 z23 z24 z25 z26 z27 z28 z29 z30 z31 z32 z33 z36 z37 z38 z39 z40 z41 z42 z43 z44 z45 z46 z47 z48 z55 z56 z59 z60 z61 n0 n1 n49 n50 n51 n52 n53 n54 n57 n58 n62 n63 n g ((F_m_needsNew g n (mv g n rs) a).2) 277680074 hn) ⟨by decide, by decide⟩ ⟨by decide, by decide⟩ hl.1 rfl 12 rfl rfl rfl (Nat.le_of_ble_eq_true rfl) [12, 13] [0, 1, 2, 3, 4, 5, 6, 7, 8, 9, 10, 11] rfl rfl rfl rfl (by decide) dX12_readsTenant_58 (fun r w1 H locs hq hw => ?_)
        obtain ⟨rfl, rfl⟩ := hq
        have hw : kW γ A ((mWa γ z10 z11 z12 z13 z14 z15 z16 z17 z18 z19 z22 z23 a) ++ (mWz γ z z2 z10 z11 z12 z13 z14 z15 z16 z17 z18 z19 z22 z23 z24 z25 z26 z27 z28 z29 z30 z31 z32 z33 z36 z37 z38 z39 z40 z41 z42 z43 z44 z45 z46 z47 z48 z55 z56 z59 z60 z61 n0 n1 n49 n50 n51 n52 n53 n54 n57 n58 n62 n63 g n ((F_m_needsNew g n (mv g n rs) a).2))) s H locs := hw
        refine W.eq (g2 := F0 m 61 ls [.int (F_m_isWord g n ((F_m_needsNew g n (mv g n rs) a).2) 277680074), .int (5 + ((a.1) 6)), .ref z16]) rfl ?_
        refine lv_if_eq (tgt := 68) hx hb dX12_readsTenant_61 (by decide) (fun c_191 => ?_) (fun c_191 => ?_)
        · refine lv_aload_n hx hb dX12_readsTenant_68 rfl (lv_at hl 1 rfl) ?_
          refine k_ldc2 hC gw_1447 dX12_readsTenant_69 ?_
          refine k_V (wr := (mWa γ z10 z11 z12 z13 z14 z15 z16 z17 z18 z19 z22 z23 a)) 1 gw_1413 gw_1415 gp_56 gw_15 gw_1416 hd_X12_isWord hC hw (c_m_isWord γ l z z2 z10 z11 z12 z13 z14 z15 z16 z17 z18 z19 z22 z23 z24 z25 z26 z27 z28 z29 z30 z31 z32 z33 z36 z37 z38 z39 z40 z41 z42 z43 z44 z45 z46 z47 z48 z55 z56 z59 z60 z61 n0 n1 n49 n50 n51 n52 n53 n54 n57 n58 n62 n63 n g ((F_m_needsNew g n (mv g n rs) a).2) 49538619 hn) ⟨by decide, by decide⟩ ⟨by decide, by decide⟩ hl.1 rfl 12 rfl rfl rfl (Nat.le_of_ble_eq_true rfl) [12, 13] [0, 1, 2, 3, 4, 5, 6, 7, 8, 9, 10, 11] rfl rfl rfl rfl (by decide) dX12_readsTenant_72 (fun r w1 H locs hq hw => ?_)
          obtain ⟨rfl, rfl⟩ := hq
          have hw : kW γ A ((mWa γ z10 z11 z12 z13 z14 z15 z16 z17 z18 z19 z22 z23 a) ++ (mWz γ z z2 z10 z11 z12 z13 z14 z15 z16 z17 z18 z19 z22 z23 z24 z25 z26 z27 z28 z29 z30 z31 z32 z33 z36 z37 z38 z39 z40 z41 z42 z43 z44 z45 z46 z47 z48 z55 z56 z59 z60 z61 n0 n1 n49 n50 n51 n52 n53 n54 n57 n58 n62 n63 g n ((F_m_needsNew g n (mv g n rs) a).2))) s H locs := hw
          refine W.eq (g2 := F0 m 75 ls [.int (F_m_isWord g n ((F_m_needsNew g n (mv g n rs) a).2) 49538619), .int (5 + ((a.1) 6)), .ref z16]) rfl ?_
          refine lv_if_eq (tgt := 82) hx hb dX12_readsTenant_75 (by decide) (fun c_192 => ?_) (fun c_192 => ?_)
          · refine lv_aload_n hx hb dX12_readsTenant_82 rfl (lv_at hl 1 rfl) ?_
            refine k_ldc2 hC gw_1448 dX12_readsTenant_83 ?_
            refine k_V (wr := (mWa γ z10 z11 z12 z13 z14 z15 z16 z17 z18 z19 z22 z23 a)) 1 gw_1413 gw_1415 gp_56 gw_15 gw_1416 hd_X12_isWord hC hw (c_m_isWord γ l z z2 z10 z11 z12 z13 z14 z15 z16 z17 z18 z19 z22 z23 z24 z25 z26 z27 z28 z29 z30 z31 z32 z33 z36 z37 z38 z39 z40 z41 z42 z43 z44 z45 z46 z47 z48 z55 z56 z59 z60 z61 n0 n1 n49 n50 n51 n52 n53 n54 n57 n58 n62 n63 n g ((F_m_needsNew g n (mv g n rs) a).2) 269726508 hn) ⟨by decide, by decide⟩ ⟨by decide, by decide⟩ hl.1 rfl 12 rfl rfl rfl (Nat.le_of_ble_eq_true rfl) [12, 13] [0, 1, 2, 3, 4, 5, 6, 7, 8, 9, 10, 11] rfl rfl rfl rfl (by decide) dX12_readsTenant_86 (fun r w1 H locs hq hw => ?_)
            obtain ⟨rfl, rfl⟩ := hq
            have hw : kW γ A ((mWa γ z10 z11 z12 z13 z14 z15 z16 z17 z18 z19 z22 z23 a) ++ (mWz γ z z2 z10 z11 z12 z13 z14 z15 z16 z17 z18 z19 z22 z23 z24 z25 z26 z27 z28 z29 z30 z31 z32 z33 z36 z37 z38 z39 z40 z41 z42 z43 z44 z45 z46 z47 z48 z55 z56 z59 z60 z61 n0 n1 n49 n50 n51 n52 n53 n54 n57 n58 n62 n63 g n ((F_m_needsNew g n (mv g n rs) a).2))) s H locs := hw
            refine W.eq (g2 := F0 m 89 ls [.int (F_m_isWord g n ((F_m_needsNew g n (mv g n rs) a).2) 269726508), .int (5 + ((a.1) 6)), .ref z16]) rfl ?_
            refine lv_if_eq (tgt := 96) hx hb dX12_readsTenant_89 (by decide) (fun c_193 => ?_) (fun c_193 => ?_)
            · refine lv_iconst (v := (-1)) hx hb dX12_readsTenant_96 (by decide) ?_
              refine k_iast hC hw 6 rfl (in10 hM.2.1 hM.2.2 c_188) dX12_readsTenant_97 (fun H locs hw => ?_)
              have hw : kW γ A ((mWa γ z10 z11 z12 z13 z14 z15 z16 z17 z18 z19 z22 z23 ((a.1), (a.2.1), (a.2.2.1), (a.2.2.2.1), (a.2.2.2.2.1), (a.2.2.2.2.2.1), (upd (a.2.2.2.2.2.2.1) ((5 + ((a.1) 6)) : Int32).toNatClampNeg (-1)), (a.2.2.2.2.2.2.2.1), (a.2.2.2.2.2.2.2.2.1), (a.2.2.2.2.2.2.2.2.2.1), (a.2.2.2.2.2.2.2.2.2.2.1), (a.2.2.2.2.2.2.2.2.2.2.2))) ++ (mWz γ z z2 z10 z11 z12 z13 z14 z15 z16 z17 z18 z19 z22 z23 z24 z25 z26 z27 z28 z29 z30 z31 z32 z33 z36 z37 z38 z39 z40 z41 z42 z43 z44 z45 z46 z47 z48 z55 z56 z59 z60 z61 n0 n1 n49 n50 n51 n52 n53 n54 n57 n58 n62 n63 g n ((F_m_needsNew g n (mv g n rs) a).2))) s H locs := hw
              refine lv_aload_n hx hb dX12_readsTenant_98 rfl (lv_at hl 1 rfl) ?_
              refine fg_RX12_32 hC hw 12 rfl rfl dX12_readsTenant_99 ?_
              refine lv_iload_n hx hb dX12_readsTenant_102 rfl (lv_at hl 0 rfl) ?_
              refine k_iald hC hw 6 rfl (in10 hM.2.1 hM.2.2 c_188) dX12_readsTenant_103 ?_
              refine lv_topi (fun x_194 ex_194 => ?_)
              obtain rfl : x_194 = (-1) := ex_194.trans (if_pos rfl)
              refine lv_if_ge (tgt := 113) hx hb dX12_readsTenant_104 (by decide) (fun h => absurd h (by decide)) (fun _ => ?_)
              refine lv_aload_n hx hb dX12_readsTenant_107 rfl (lv_at hl 1 rfl) ?_
              refine lv_iconst (v := 1) hx hb dX12_readsTenant_108 (by decide) ?_
              refine k_V (wr := (mWa γ z10 z11 z12 z13 z14 z15 z16 z17 z18 z19 z22 z23 ((a.1), (a.2.1), (a.2.2.1), (a.2.2.2.1), (a.2.2.2.2.1), (a.2.2.2.2.2.1), (upd (a.2.2.2.2.2.2.1) ((5 + ((a.1) 6)) : Int32).toNatClampNeg (-1)), (a.2.2.2.2.2.2.2.1), (a.2.2.2.2.2.2.2.2.1), (a.2.2.2.2.2.2.2.2.2.1), (a.2.2.2.2.2.2.2.2.2.2.1), (a.2.2.2.2.2.2.2.2.2.2.2)))) 1 gw_1421 gw_1423 gp_58 gw_15 gw_1424 hd_X12_fails hC hw (c_m_fails γ l z z2 z10 z11 z12 z13 z14 z15 z16 z17 z18 z19 z22 z23 z24 z25 z26 z27 z28 z29 z30 z31 z32 z33 z36 z37 z38 z39 z40 z41 z42 z43 z44 z45 z46 z47 z48 z55 z56 z59 z60 z61 n0 n1 n49 n50 n51 n52 n53 n54 n57 n58 n62 n63 n g ((F_m_needsNew g n (mv g n rs) a).2) 1 hn) ⟨by decide, by decide⟩ ⟨by decide, by decide⟩ hl.1 rfl 12 rfl rfl rfl (Nat.le_of_ble_eq_true rfl) [12, 13] [0, 1, 2, 3, 4, 5, 6, 7, 8, 9, 10, 11] rfl rfl rfl rfl (by decide) dX12_readsTenant_109 (fun r w1 H locs hq hw => ?_)
              obtain ⟨rfl, rfl⟩ := hq
              have hw : kW γ A ((mWa γ z10 z11 z12 z13 z14 z15 z16 z17 z18 z19 z22 z23 ((a.1), (a.2.1), (a.2.2.1), (a.2.2.2.1), (a.2.2.2.2.1), (a.2.2.2.2.2.1), (upd (a.2.2.2.2.2.2.1) ((5 + ((a.1) 6)) : Int32).toNatClampNeg (-1)), (a.2.2.2.2.2.2.2.1), (a.2.2.2.2.2.2.2.2.1), (a.2.2.2.2.2.2.2.2.2.1), (a.2.2.2.2.2.2.2.2.2.2.1), (a.2.2.2.2.2.2.2.2.2.2.2))) ++ (mWz γ z z2 z10 z11 z12 z13 z14 z15 z16 z17 z18 z19 z22 z23 z24 z25 z26 z27 z28 z29 z30 z31 z32 z33 z36 z37 z38 z39 z40 z41 z42 z43 z44 z45 z46 z47 z48 z55 z56 z59 z60 z61 n0 n1 n49 n50 n51 n52 n53 n54 n57 n58 n62 n63 g n (F_m_fails g n ((F_m_needsNew g n (mv g n rs) a).2) 1))) s H locs := hw
              refine W.eq (g2 := F0 m 112 ls [.int 0]) rfl ?_
              have hE : (F_m_readsTenant g n rs a) = (0, (F_m_fails g n ((F_m_needsNew g n (mv g n rs) a).2) 1), ((a.1), (a.2.1), (a.2.2.1), (a.2.2.2.1), (a.2.2.2.2.1), (a.2.2.2.2.2.1), (upd (a.2.2.2.2.2.2.1) ((5 + ((a.1) 6)) : Int32).toNatClampNeg (-1)), (a.2.2.2.2.2.2.2.1), (a.2.2.2.2.2.2.2.2.1), (a.2.2.2.2.2.2.2.2.2.1), (a.2.2.2.2.2.2.2.2.2.2.1), (a.2.2.2.2.2.2.2.2.2.2.2))) := by unfold F_m_readsTenant; rw [if_neg c_188, if_neg c_189, if_pos c_190, if_pos c_191, if_pos c_192, if_pos c_193]
              have hw : kW γ A ((mWa γ z10 z11 z12 z13 z14 z15 z16 z17 z18 z19 z22 z23 ((F_m_readsTenant g n rs a).2.2)) ++ (mWz γ z z2 z10 z11 z12 z13 z14 z15 z16 z17 z18 z19 z22 z23 z24 z25 z26 z27 z28 z29 z30 z31 z32 z33 z36 z37 z38 z39 z40 z41 z42 z43 z44 z45 z46 z47 z48 z55 z56 z59 z60 z61 n0 n1 n49 n50 n51 n52 n53 n54 n57 n58 n62 n63 g n ((F_m_readsTenant g n rs a).2.1))) s H locs := by first | (rw [hE]; exact hw) | exact hw
              exact k_zret hC hr hlocks rfl hw [12, 13, 0, 1, 2, 3, 4, 5, 6, 7, 8, 9, 10, 11] rfl rfl ⟨by rw [hE], rfl⟩ (by decide) (by decide) dX12_readsTenant_112
            · refine lv_iconst (v := 3) hx hb dX12_readsTenant_92 (by decide) ?_
              refine lv_goto (tgt := 97) hx hb dX12_readsTenant_93 (by decide) ?_
              refine k_iast hC hw 6 rfl (in10 hM.2.1 hM.2.2 c_188) dX12_readsTenant_97 (fun H locs hw => ?_)
              have hw : kW γ A ((mWa γ z10 z11 z12 z13 z14 z15 z16 z17 z18 z19 z22 z23 ((a.1), (a.2.1), (a.2.2.1), (a.2.2.2.1), (a.2.2.2.2.1), (a.2.2.2.2.2.1), (upd (a.2.2.2.2.2.2.1) ((5 + ((a.1) 6)) : Int32).toNatClampNeg 3), (a.2.2.2.2.2.2.2.1), (a.2.2.2.2.2.2.2.2.1), (a.2.2.2.2.2.2.2.2.2.1), (a.2.2.2.2.2.2.2.2.2.2.1), (a.2.2.2.2.2.2.2.2.2.2.2))) ++ (mWz γ z z2 z10 z11 z12 z13 z14 z15 z16 z17 z18 z19 z22 z23 z24 z25 z26 z27 z28 z29 z30 z31 z32 z33 z36 z37 z38 z39 z40 z41 z42 z43 z44 z45 z46 z47 z48 z55 z56 z59 z60 z61 n0 n1 n49 n50 n51 n52 n53 n54 n57 n58 n62 n63 g n ((F_m_needsNew g n (mv g n rs) a).2))) s H locs := hw
              refine lv_aload_n hx hb dX12_readsTenant_98 rfl (lv_at hl 1 rfl) ?_
              refine fg_RX12_32 hC hw 12 rfl rfl dX12_readsTenant_99 ?_
              refine lv_iload_n hx hb dX12_readsTenant_102 rfl (lv_at hl 0 rfl) ?_
              refine k_iald hC hw 6 rfl (in10 hM.2.1 hM.2.2 c_188) dX12_readsTenant_103 ?_
              refine lv_topi (fun x_195 ex_195 => ?_)
              obtain rfl : x_195 = 3 := ex_195.trans (if_pos rfl)
              refine lv_if_ge (tgt := 113) hx hb dX12_readsTenant_104 (by decide) (fun _ => ?_) (fun h => absurd (by decide) h)
              refine lv_aload_n hx hb dX12_readsTenant_113 rfl (lv_at hl 1 rfl) ?_
              refine k_V (wr := (mWa γ z10 z11 z12 z13 z14 z15 z16 z17 z18 z19 z22 z23 ((a.1), (a.2.1), (a.2.2.1), (a.2.2.2.1), (a.2.2.2.2.1), (a.2.2.2.2.2.1), (upd (a.2.2.2.2.2.2.1) ((5 + ((a.1) 6)) : Int32).toNatClampNeg 3), (a.2.2.2.2.2.2.2.1), (a.2.2.2.2.2.2.2.2.1), (a.2.2.2.2.2.2.2.2.2.1), (a.2.2.2.2.2.2.2.2.2.2.1), (a.2.2.2.2.2.2.2.2.2.2.2)))) 0 gw_1402 gw_1404 gp_54 gw_15 gw_1405 hd_X12_nextToken hC hw (c_mv γ l z z2 z10 z11 z12 z13 z14 z15 z16 z17 z18 z19 z22 z23 z24 z25 z26 z27 z28 z29 z30 z31 z32 z33 z36 z37 z38 z39 z40 z41 z42 z43 z44 z45 z46 z47 z48 z55 z56 z59 z60 z61 n0 n1 n49 n50 n51 n52 n53 n54 n57 n58 n62 n63 n g ((F_m_needsNew g n (mv g n rs) a).2) hn) ⟨by decide, by decide⟩ ⟨by decide, by decide⟩ hl.1 rfl 12 rfl rfl rfl (Nat.le_of_ble_eq_true rfl) [12, 13] [0, 1, 2, 3, 4, 5, 6, 7, 8, 9, 10, 11] rfl rfl rfl rfl (by decide) dX12_readsTenant_114 (fun r w1 H locs hq hw => ?_)
              obtain ⟨rfl, rfl⟩ := hq
              have hw : kW γ A ((mWa γ z10 z11 z12 z13 z14 z15 z16 z17 z18 z19 z22 z23 ((a.1), (a.2.1), (a.2.2.1), (a.2.2.2.1), (a.2.2.2.2.1), (a.2.2.2.2.2.1), (upd (a.2.2.2.2.2.2.1) ((5 + ((a.1) 6)) : Int32).toNatClampNeg 3), (a.2.2.2.2.2.2.2.1), (a.2.2.2.2.2.2.2.2.1), (a.2.2.2.2.2.2.2.2.2.1), (a.2.2.2.2.2.2.2.2.2.2.1), (a.2.2.2.2.2.2.2.2.2.2.2))) ++ (mWz γ z z2 z10 z11 z12 z13 z14 z15 z16 z17 z18 z19 z22 z23 z24 z25 z26 z27 z28 z29 z30 z31 z32 z33 z36 z37 z38 z39 z40 z41 z42 z43 z44 z45 z46 z47 z48 z55 z56 z59 z60 z61 n0 n1 n49 n50 n51 n52 n53 n54 n57 n58 n62 n63 g n (mv g n ((F_m_needsNew g n (mv g n rs) a).2)))) s H locs := hw
              refine W.eq (g2 := F0 m 117 ls []) rfl ?_
              refine lv_aload_n hx hb dX12_readsTenant_117 rfl (lv_at hl 1 rfl) ?_
              refine fg_RX12_20 hC hw 12 rfl rfl dX12_readsTenant_118 ?_
              refine lv_iload_n hx hb dX12_readsTenant_121 rfl (lv_at hl 0 rfl) ?_
              refine lv_aload_n hx hb dX12_readsTenant_122 rfl (lv_at hl 1 rfl) ?_
              refine fg_RX12_283 hC hw 12 rfl rfl dX12_readsTenant_123 ?_
              refine k_last hC hw 2 rfl (in10 hM.2.1 hM.2.2 c_188) dX12_readsTenant_126 (fun H locs hw => ?_)
              have hw : kW γ A ((mWa γ z10 z11 z12 z13 z14 z15 z16 z17 z18 z19 z22 z23 ((a.1), (a.2.1), (vp_updL (a.2.2.1) ((5 + ((a.1) 6)) : Int32).toNatClampNeg ((mv g n ((F_m_needsNew g n (mv g n rs) a).2)).2.2.2.1)), (a.2.2.2.1), (a.2.2.2.2.1), (a.2.2.2.2.2.1), (upd (a.2.2.2.2.2.2.1) ((5 + ((a.1) 6)) : Int32).toNatClampNeg 3), (a.2.2.2.2.2.2.2.1), (a.2.2.2.2.2.2.2.2.1), (a.2.2.2.2.2.2.2.2.2.1), (a.2.2.2.2.2.2.2.2.2.2.1), (a.2.2.2.2.2.2.2.2.2.2.2))) ++ (mWz γ z z2 z10 z11 z12 z13 z14 z15 z16 z17 z18 z19 z22 z23 z24 z25 z26 z27 z28 z29 z30 z31 z32 z33 z36 z37 z38 z39 z40 z41 z42 z43 z44 z45 z46 z47 z48 z55 z56 z59 z60 z61 n0 n1 n49 n50 n51 n52 n53 n54 n57 n58 n62 n63 g n (mv g n ((F_m_needsNew g n (mv g n rs) a).2)))) s H locs := hw
              refine lv_aload_n hx hb dX12_readsTenant_127 rfl (lv_at hl 1 rfl) ?_
              refine fg_RX12_13 hC hw 12 rfl rfl dX12_readsTenant_128 ?_
              refine lv_bipush (v := 6) hx hb dX12_readsTenant_131 (by decide) ?_
              refine lv_dup2_11 hx hb dX12_readsTenant_133 rfl rfl ?_
              refine k_iald hC hw 0 rfl (k_in0 (by decide)) dX12_readsTenant_134 ?_
              refine lv_topi (fun x_196 ex_196 => ?_)
              obtain rfl : x_196 = ((a.1) 6) := ex_196
              refine lv_iconst (v := 1) hx hb dX12_readsTenant_135 (by decide) ?_
              refine lv_iadd hx hb dX12_readsTenant_136 ?_
              refine k_iast hC hw 0 rfl (k_in0 (by decide)) dX12_readsTenant_137 (fun H locs hw => ?_)
              have hw : kW γ A ((mWa γ z10 z11 z12 z13 z14 z15 z16 z17 z18 z19 z22 z23 ((upd (a.1) 6 (((a.1) 6) + 1)), (a.2.1), (vp_updL (a.2.2.1) ((5 + ((a.1) 6)) : Int32).toNatClampNeg ((mv g n ((F_m_needsNew g n (mv g n rs) a).2)).2.2.2.1)), (a.2.2.2.1), (a.2.2.2.2.1), (a.2.2.2.2.2.1), (upd (a.2.2.2.2.2.2.1) ((5 + ((a.1) 6)) : Int32).toNatClampNeg 3), (a.2.2.2.2.2.2.2.1), (a.2.2.2.2.2.2.2.2.1), (a.2.2.2.2.2.2.2.2.2.1), (a.2.2.2.2.2.2.2.2.2.2.1), (a.2.2.2.2.2.2.2.2.2.2.2))) ++ (mWz γ z z2 z10 z11 z12 z13 z14 z15 z16 z17 z18 z19 z22 z23 z24 z25 z26 z27 z28 z29 z30 z31 z32 z33 z36 z37 z38 z39 z40 z41 z42 z43 z44 z45 z46 z47 z48 z55 z56 z59 z60 z61 n0 n1 n49 n50 n51 n52 n53 n54 n57 n58 n62 n63 g n (mv g n ((F_m_needsNew g n (mv g n rs) a).2)))) s H locs := hw
              refine lv_aload_n hx hb dX12_readsTenant_138 rfl (lv_at hl 1 rfl) ?_
              refine k_V (wr := (mWa γ z10 z11 z12 z13 z14 z15 z16 z17 z18 z19 z22 z23 ((upd (a.1) 6 (((a.1) 6) + 1)), (a.2.1), (vp_updL (a.2.2.1) ((5 + ((a.1) 6)) : Int32).toNatClampNeg ((mv g n ((F_m_needsNew g n (mv g n rs) a).2)).2.2.2.1)), (a.2.2.2.1), (a.2.2.2.2.1), (a.2.2.2.2.2.1), (upd (a.2.2.2.2.2.2.1) ((5 + ((a.1) 6)) : Int32).toNatClampNeg 3), (a.2.2.2.2.2.2.2.1), (a.2.2.2.2.2.2.2.2.1), (a.2.2.2.2.2.2.2.2.2.1), (a.2.2.2.2.2.2.2.2.2.2.1), (a.2.2.2.2.2.2.2.2.2.2.2)))) 0 gw_1471 gw_1473 gp_65 gw_15 gw_1474 hd_X12_closes hC hw (c_m_closes γ l z z2 z10 z11 z12 z13 z14 z15 z16 z17 z18 z19 z22 z23 z24 z25 z26 z27 z28 z29 z30 z31 z32 z33 z36 z37 z38 z39 z40 z41 z42 z43 z44 z45 z46 z47 z48 z55 z56 z59 z60 z61 n0 n1 n49 n50 n51 n52 n53 n54 n57 n58 n62 n63 n g (mv g n ((F_m_needsNew g n (mv g n rs) a).2)) hn) ⟨by decide, by decide⟩ ⟨by decide, by decide⟩ hl.1 rfl 12 rfl rfl rfl (Nat.le_of_ble_eq_true rfl) [12, 13] [0, 1, 2, 3, 4, 5, 6, 7, 8, 9, 10, 11] rfl rfl rfl rfl (by decide) dX12_readsTenant_139 (fun r w1 H locs hq hw => ?_)
              obtain ⟨rfl, rfl⟩ := hq
              have hw : kW γ A ((mWa γ z10 z11 z12 z13 z14 z15 z16 z17 z18 z19 z22 z23 ((upd (a.1) 6 (((a.1) 6) + 1)), (a.2.1), (vp_updL (a.2.2.1) ((5 + ((a.1) 6)) : Int32).toNatClampNeg ((mv g n ((F_m_needsNew g n (mv g n rs) a).2)).2.2.2.1)), (a.2.2.2.1), (a.2.2.2.2.1), (a.2.2.2.2.2.1), (upd (a.2.2.2.2.2.2.1) ((5 + ((a.1) 6)) : Int32).toNatClampNeg 3), (a.2.2.2.2.2.2.2.1), (a.2.2.2.2.2.2.2.2.1), (a.2.2.2.2.2.2.2.2.2.1), (a.2.2.2.2.2.2.2.2.2.2.1), (a.2.2.2.2.2.2.2.2.2.2.2))) ++ (mWz γ z z2 z10 z11 z12 z13 z14 z15 z16 z17 z18 z19 z22 z23 z24 z25 z26 z27 z28 z29 z30 z31 z32 z33 z36 z37 z38 z39 z40 z41 z42 z43 z44 z45 z46 z47 z48 z55 z56 z59 z60 z61 n0 n1 n49 n50 n51 n52 n53 n54 n57 n58 n62 n63 g n ((F_m_closes g n (mv g n ((F_m_needsNew g n (mv g n rs) a).2))).2))) s H locs := hw
              refine W.eq (g2 := F0 m 142 ls [.int ((F_m_closes g n (mv g n ((F_m_needsNew g n (mv g n rs) a).2))).1)]) rfl ?_
              have hE : (F_m_readsTenant g n rs a) = (((F_m_closes g n (mv g n ((F_m_needsNew g n (mv g n rs) a).2))).1), ((F_m_closes g n (mv g n ((F_m_needsNew g n (mv g n rs) a).2))).2), ((upd (a.1) 6 (((a.1) 6) + 1)), (a.2.1), (vp_updL (a.2.2.1) ((5 + ((a.1) 6)) : Int32).toNatClampNeg ((mv g n ((F_m_needsNew g n (mv g n rs) a).2)).2.2.2.1)), (a.2.2.2.1), (a.2.2.2.2.1), (a.2.2.2.2.2.1), (upd (a.2.2.2.2.2.2.1) ((5 + ((a.1) 6)) : Int32).toNatClampNeg 3), (a.2.2.2.2.2.2.2.1), (a.2.2.2.2.2.2.2.2.1), (a.2.2.2.2.2.2.2.2.2.1), (a.2.2.2.2.2.2.2.2.2.2.1), (a.2.2.2.2.2.2.2.2.2.2.2))) := by unfold F_m_readsTenant; rw [if_neg c_188, if_neg c_189, if_pos c_190, if_pos c_191, if_pos c_192, if_neg c_193]
              have hw : kW γ A ((mWa γ z10 z11 z12 z13 z14 z15 z16 z17 z18 z19 z22 z23 ((F_m_readsTenant g n rs a).2.2)) ++ (mWz γ z z2 z10 z11 z12 z13 z14 z15 z16 z17 z18 z19 z22 z23 z24 z25 z26 z27 z28 z29 z30 z31 z32 z33 z36 z37 z38 z39 z40 z41 z42 z43 z44 z45 z46 z47 z48 z55 z56 z59 z60 z61 n0 n1 n49 n50 n51 n52 n53 n54 n57 n58 n62 n63 g n ((F_m_readsTenant g n rs a).2.1))) s H locs := by first | (rw [hE]; exact hw) | exact hw
              exact k_zret hC hr hlocks (zb b_closes) hw [12, 13, 0, 1, 2, 3, 4, 5, 6, 7, 8, 9, 10, 11] rfl rfl ⟨by rw [hE], rfl⟩ (by decide) (by decide) dX12_readsTenant_142
          · refine lv_iconst (v := 2) hx hb dX12_readsTenant_78 (by decide) ?_
            refine lv_goto (tgt := 97) hx hb dX12_readsTenant_79 (by decide) ?_
            refine k_iast hC hw 6 rfl (in10 hM.2.1 hM.2.2 c_188) dX12_readsTenant_97 (fun H locs hw => ?_)
            have hw : kW γ A ((mWa γ z10 z11 z12 z13 z14 z15 z16 z17 z18 z19 z22 z23 ((a.1), (a.2.1), (a.2.2.1), (a.2.2.2.1), (a.2.2.2.2.1), (a.2.2.2.2.2.1), (upd (a.2.2.2.2.2.2.1) ((5 + ((a.1) 6)) : Int32).toNatClampNeg 2), (a.2.2.2.2.2.2.2.1), (a.2.2.2.2.2.2.2.2.1), (a.2.2.2.2.2.2.2.2.2.1), (a.2.2.2.2.2.2.2.2.2.2.1), (a.2.2.2.2.2.2.2.2.2.2.2))) ++ (mWz γ z z2 z10 z11 z12 z13 z14 z15 z16 z17 z18 z19 z22 z23 z24 z25 z26 z27 z28 z29 z30 z31 z32 z33 z36 z37 z38 z39 z40 z41 z42 z43 z44 z45 z46 z47 z48 z55 z56 z59 z60 z61 n0 n1 n49 n50 n51 n52 n53 n54 n57 n58 n62 n63 g n ((F_m_needsNew g n (mv g n rs) a).2))) s H locs := hw
            refine lv_aload_n hx hb dX12_readsTenant_98 rfl (lv_at hl 1 rfl) ?_
            refine fg_RX12_32 hC hw 12 rfl rfl dX12_readsTenant_99 ?_
            refine lv_iload_n hx hb dX12_readsTenant_102 rfl (lv_at hl 0 rfl) ?_
            refine k_iald hC hw 6 rfl (in10 hM.2.1 hM.2.2 c_188) dX12_readsTenant_103 ?_
            refine lv_topi (fun x_197 ex_197 => ?_)
            obtain rfl : x_197 = 2 := ex_197.trans (if_pos rfl)
            refine lv_if_ge (tgt := 113) hx hb dX12_readsTenant_104 (by decide) (fun _ => ?_) (fun h => absurd (by decide) h)
            refine lv_aload_n hx hb dX12_readsTenant_113 rfl (lv_at hl 1 rfl) ?_
            refine k_V (wr := (mWa γ z10 z11 z12 z13 z14 z15 z16 z17 z18 z19 z22 z23 ((a.1), (a.2.1), (a.2.2.1), (a.2.2.2.1), (a.2.2.2.2.1), (a.2.2.2.2.2.1), (upd (a.2.2.2.2.2.2.1) ((5 + ((a.1) 6)) : Int32).toNatClampNeg 2), (a.2.2.2.2.2.2.2.1), (a.2.2.2.2.2.2.2.2.1), (a.2.2.2.2.2.2.2.2.2.1), (a.2.2.2.2.2.2.2.2.2.2.1), (a.2.2.2.2.2.2.2.2.2.2.2)))) 0 gw_1402 gw_1404 gp_54 gw_15 gw_1405 hd_X12_nextToken hC hw (c_mv γ l z z2 z10 z11 z12 z13 z14 z15 z16 z17 z18 z19 z22 z23 z24 z25 z26 z27 z28 z29 z30 z31 z32 z33 z36 z37 z38 z39 z40 z41 z42 z43 z44 z45 z46 z47 z48 z55 z56 z59 z60 z61 n0 n1 n49 n50 n51 n52 n53 n54 n57 n58 n62 n63 n g ((F_m_needsNew g n (mv g n rs) a).2) hn) ⟨by decide, by decide⟩ ⟨by decide, by decide⟩ hl.1 rfl 12 rfl rfl rfl (Nat.le_of_ble_eq_true rfl) [12, 13] [0, 1, 2, 3, 4, 5, 6, 7, 8, 9, 10, 11] rfl rfl rfl rfl (by decide) dX12_readsTenant_114 (fun r w1 H locs hq hw => ?_)
            obtain ⟨rfl, rfl⟩ := hq
            have hw : kW γ A ((mWa γ z10 z11 z12 z13 z14 z15 z16 z17 z18 z19 z22 z23 ((a.1), (a.2.1), (a.2.2.1), (a.2.2.2.1), (a.2.2.2.2.1), (a.2.2.2.2.2.1), (upd (a.2.2.2.2.2.2.1) ((5 + ((a.1) 6)) : Int32).toNatClampNeg 2), (a.2.2.2.2.2.2.2.1), (a.2.2.2.2.2.2.2.2.1), (a.2.2.2.2.2.2.2.2.2.1), (a.2.2.2.2.2.2.2.2.2.2.1), (a.2.2.2.2.2.2.2.2.2.2.2))) ++ (mWz γ z z2 z10 z11 z12 z13 z14 z15 z16 z17 z18 z19 z22 z23 z24 z25 z26 z27 z28 z29 z30 z31 z32 z33 z36 z37 z38 z39 z40 z41 z42 z43 z44 z45 z46 z47 z48 z55 z56 z59 z60 z61 n0 n1 n49 n50 n51 n52 n53 n54 n57 n58 n62 n63 g n (mv g n ((F_m_needsNew g n (mv g n rs) a).2)))) s H locs := hw
            refine W.eq (g2 := F0 m 117 ls []) rfl ?_
            refine lv_aload_n hx hb dX12_readsTenant_117 rfl (lv_at hl 1 rfl) ?_
            refine fg_RX12_20 hC hw 12 rfl rfl dX12_readsTenant_118 ?_
            refine lv_iload_n hx hb dX12_readsTenant_121 rfl (lv_at hl 0 rfl) ?_
            refine lv_aload_n hx hb dX12_readsTenant_122 rfl (lv_at hl 1 rfl) ?_
            refine fg_RX12_283 hC hw 12 rfl rfl dX12_readsTenant_123 ?_
            refine k_last hC hw 2 rfl (in10 hM.2.1 hM.2.2 c_188) dX12_readsTenant_126 (fun H locs hw => ?_)
            have hw : kW γ A ((mWa γ z10 z11 z12 z13 z14 z15 z16 z17 z18 z19 z22 z23 ((a.1), (a.2.1), (vp_updL (a.2.2.1) ((5 + ((a.1) 6)) : Int32).toNatClampNeg ((mv g n ((F_m_needsNew g n (mv g n rs) a).2)).2.2.2.1)), (a.2.2.2.1), (a.2.2.2.2.1), (a.2.2.2.2.2.1), (upd (a.2.2.2.2.2.2.1) ((5 + ((a.1) 6)) : Int32).toNatClampNeg 2), (a.2.2.2.2.2.2.2.1), (a.2.2.2.2.2.2.2.2.1), (a.2.2.2.2.2.2.2.2.2.1), (a.2.2.2.2.2.2.2.2.2.2.1), (a.2.2.2.2.2.2.2.2.2.2.2))) ++ (mWz γ z z2 z10 z11 z12 z13 z14 z15 z16 z17 z18 z19 z22 z23 z24 z25 z26 z27 z28 z29 z30 z31 z32 z33 z36 z37 z38 z39 z40 z41 z42 z43 z44 z45 z46 z47 z48 z55 z56 z59 z60 z61 n0 n1 n49 n50 n51 n52 n53 n54 n57 n58 n62 n63 g n (mv g n ((F_m_needsNew g n (mv g n rs) a).2)))) s H locs := hw
            refine lv_aload_n hx hb dX12_readsTenant_127 rfl (lv_at hl 1 rfl) ?_
            refine fg_RX12_13 hC hw 12 rfl rfl dX12_readsTenant_128 ?_
            refine lv_bipush (v := 6) hx hb dX12_readsTenant_131 (by decide) ?_
            refine lv_dup2_11 hx hb dX12_readsTenant_133 rfl rfl ?_
            refine k_iald hC hw 0 rfl (k_in0 (by decide)) dX12_readsTenant_134 ?_
            refine lv_topi (fun x_198 ex_198 => ?_)
            obtain rfl : x_198 = ((a.1) 6) := ex_198
            refine lv_iconst (v := 1) hx hb dX12_readsTenant_135 (by decide) ?_
            refine lv_iadd hx hb dX12_readsTenant_136 ?_
            refine k_iast hC hw 0 rfl (k_in0 (by decide)) dX12_readsTenant_137 (fun H locs hw => ?_)
            have hw : kW γ A ((mWa γ z10 z11 z12 z13 z14 z15 z16 z17 z18 z19 z22 z23 ((upd (a.1) 6 (((a.1) 6) + 1)), (a.2.1), (vp_updL (a.2.2.1) ((5 + ((a.1) 6)) : Int32).toNatClampNeg ((mv g n ((F_m_needsNew g n (mv g n rs) a).2)).2.2.2.1)), (a.2.2.2.1), (a.2.2.2.2.1), (a.2.2.2.2.2.1), (upd (a.2.2.2.2.2.2.1) ((5 + ((a.1) 6)) : Int32).toNatClampNeg 2), (a.2.2.2.2.2.2.2.1), (a.2.2.2.2.2.2.2.2.1), (a.2.2.2.2.2.2.2.2.2.1), (a.2.2.2.2.2.2.2.2.2.2.1), (a.2.2.2.2.2.2.2.2.2.2.2))) ++ (mWz γ z z2 z10 z11 z12 z13 z14 z15 z16 z17 z18 z19 z22 z23 z24 z25 z26 z27 z28 z29 z30 z31 z32 z33 z36 z37 z38 z39 z40 z41 z42 z43 z44 z45 z46 z47 z48 z55 z56 z59 z60 z61 n0 n1 n49 n50 n51 n52 n53 n54 n57 n58 n62 n63 g n (mv g n ((F_m_needsNew g n (mv g n rs) a).2)))) s H locs := hw
            refine lv_aload_n hx hb dX12_readsTenant_138 rfl (lv_at hl 1 rfl) ?_
            refine k_V (wr := (mWa γ z10 z11 z12 z13 z14 z15 z16 z17 z18 z19 z22 z23 ((upd (a.1) 6 (((a.1) 6) + 1)), (a.2.1), (vp_updL (a.2.2.1) ((5 + ((a.1) 6)) : Int32).toNatClampNeg ((mv g n ((F_m_needsNew g n (mv g n rs) a).2)).2.2.2.1)), (a.2.2.2.1), (a.2.2.2.2.1), (a.2.2.2.2.2.1), (upd (a.2.2.2.2.2.2.1) ((5 + ((a.1) 6)) : Int32).toNatClampNeg 2), (a.2.2.2.2.2.2.2.1), (a.2.2.2.2.2.2.2.2.1), (a.2.2.2.2.2.2.2.2.2.1), (a.2.2.2.2.2.2.2.2.2.2.1), (a.2.2.2.2.2.2.2.2.2.2.2)))) 0 gw_1471 gw_1473 gp_65 gw_15 gw_1474 hd_X12_closes hC hw (c_m_closes γ l z z2 z10 z11 z12 z13 z14 z15 z16 z17 z18 z19 z22 z23 z24 z25 z26 z27 z28 z29 z30 z31 z32 z33 z36 z37 z38 z39 z40 z41 z42 z43 z44 z45 z46 z47 z48 z55 z56 z59 z60 z61 n0 n1 n49 n50 n51 n52 n53 n54 n57 n58 n62 n63 n g (mv g n ((F_m_needsNew g n (mv g n rs) a).2)) hn) ⟨by decide, by decide⟩ ⟨by decide, by decide⟩ hl.1 rfl 12 rfl rfl rfl (Nat.le_of_ble_eq_true rfl) [12, 13] [0, 1, 2, 3, 4, 5, 6, 7, 8, 9, 10, 11] rfl rfl rfl rfl (by decide) dX12_readsTenant_139 (fun r w1 H locs hq hw => ?_)
            obtain ⟨rfl, rfl⟩ := hq
            have hw : kW γ A ((mWa γ z10 z11 z12 z13 z14 z15 z16 z17 z18 z19 z22 z23 ((upd (a.1) 6 (((a.1) 6) + 1)), (a.2.1), (vp_updL (a.2.2.1) ((5 + ((a.1) 6)) : Int32).toNatClampNeg ((mv g n ((F_m_needsNew g n (mv g n rs) a).2)).2.2.2.1)), (a.2.2.2.1), (a.2.2.2.2.1), (a.2.2.2.2.2.1), (upd (a.2.2.2.2.2.2.1) ((5 + ((a.1) 6)) : Int32).toNatClampNeg 2), (a.2.2.2.2.2.2.2.1), (a.2.2.2.2.2.2.2.2.1), (a.2.2.2.2.2.2.2.2.2.1), (a.2.2.2.2.2.2.2.2.2.2.1), (a.2.2.2.2.2.2.2.2.2.2.2))) ++ (mWz γ z z2 z10 z11 z12 z13 z14 z15 z16 z17 z18 z19 z22 z23 z24 z25 z26 z27 z28 z29 z30 z31 z32 z33 z36 z37 z38 z39 z40 z41 z42 z43 z44 z45 z46 z47 z48 z55 z56 z59 z60 z61 n0 n1 n49 n50 n51 n52 n53 n54 n57 n58 n62 n63 g n ((F_m_closes g n (mv g n ((F_m_needsNew g n (mv g n rs) a).2))).2))) s H locs := hw
            refine W.eq (g2 := F0 m 142 ls [.int ((F_m_closes g n (mv g n ((F_m_needsNew g n (mv g n rs) a).2))).1)]) rfl ?_
            have hE : (F_m_readsTenant g n rs a) = (((F_m_closes g n (mv g n ((F_m_needsNew g n (mv g n rs) a).2))).1), ((F_m_closes g n (mv g n ((F_m_needsNew g n (mv g n rs) a).2))).2), ((upd (a.1) 6 (((a.1) 6) + 1)), (a.2.1), (vp_updL (a.2.2.1) ((5 + ((a.1) 6)) : Int32).toNatClampNeg ((mv g n ((F_m_needsNew g n (mv g n rs) a).2)).2.2.2.1)), (a.2.2.2.1), (a.2.2.2.2.1), (a.2.2.2.2.2.1), (upd (a.2.2.2.2.2.2.1) ((5 + ((a.1) 6)) : Int32).toNatClampNeg 2), (a.2.2.2.2.2.2.2.1), (a.2.2.2.2.2.2.2.2.1), (a.2.2.2.2.2.2.2.2.2.1), (a.2.2.2.2.2.2.2.2.2.2.1), (a.2.2.2.2.2.2.2.2.2.2.2))) := by unfold F_m_readsTenant; rw [if_neg c_188, if_neg c_189, if_pos c_190, if_pos c_191, if_neg c_192]
            have hw : kW γ A ((mWa γ z10 z11 z12 z13 z14 z15 z16 z17 z18 z19 z22 z23 ((F_m_readsTenant g n rs a).2.2)) ++ (mWz γ z z2 z10 z11 z12 z13 z14 z15 z16 z17 z18 z19 z22 z23 z24 z25 z26 z27 z28 z29 z30 z31 z32 z33 z36 z37 z38 z39 z40 z41 z42 z43 z44 z45 z46 z47 z48 z55 z56 z59 z60 z61 n0 n1 n49 n50 n51 n52 n53 n54 n57 n58 n62 n63 g n ((F_m_readsTenant g n rs a).2.1))) s H locs := by first | (rw [hE]; exact hw) | exact hw
            exact k_zret hC hr hlocks (zb b_closes) hw [12, 13, 0, 1, 2, 3, 4, 5, 6, 7, 8, 9, 10, 11] rfl rfl ⟨by rw [hE], rfl⟩ (by decide) (by decide) dX12_readsTenant_142
        · refine lv_iconst (v := 1) hx hb dX12_readsTenant_64 (by decide) ?_
          refine lv_goto (tgt := 97) hx hb dX12_readsTenant_65 (by decide) ?_
          refine k_iast hC hw 6 rfl (in10 hM.2.1 hM.2.2 c_188) dX12_readsTenant_97 (fun H locs hw => ?_)
          have hw : kW γ A ((mWa γ z10 z11 z12 z13 z14 z15 z16 z17 z18 z19 z22 z23 ((a.1), (a.2.1), (a.2.2.1), (a.2.2.2.1), (a.2.2.2.2.1), (a.2.2.2.2.2.1), (upd (a.2.2.2.2.2.2.1) ((5 + ((a.1) 6)) : Int32).toNatClampNeg 1), (a.2.2.2.2.2.2.2.1), (a.2.2.2.2.2.2.2.2.1), (a.2.2.2.2.2.2.2.2.2.1), (a.2.2.2.2.2.2.2.2.2.2.1), (a.2.2.2.2.2.2.2.2.2.2.2))) ++ (mWz γ z z2 z10 z11 z12 z13 z14 z15 z16 z17 z18 z19 z22 z23 z24 z25 z26 z27 z28 z29 z30 z31 z32 z33 z36 z37 z38 z39 z40 z41 z42 z43 z44 z45 z46 z47 z48 z55 z56 z59 z60 z61 n0 n1 n49 n50 n51 n52 n53 n54 n57 n58 n62 n63 g n ((F_m_needsNew g n (mv g n rs) a).2))) s H locs := hw
          refine lv_aload_n hx hb dX12_readsTenant_98 rfl (lv_at hl 1 rfl) ?_
          refine fg_RX12_32 hC hw 12 rfl rfl dX12_readsTenant_99 ?_
          refine lv_iload_n hx hb dX12_readsTenant_102 rfl (lv_at hl 0 rfl) ?_
          refine k_iald hC hw 6 rfl (in10 hM.2.1 hM.2.2 c_188) dX12_readsTenant_103 ?_
          refine lv_topi (fun x_199 ex_199 => ?_)
          obtain rfl : x_199 = 1 := ex_199.trans (if_pos rfl)
          refine lv_if_ge (tgt := 113) hx hb dX12_readsTenant_104 (by decide) (fun _ => ?_) (fun h => absurd (by decide) h)
          refine lv_aload_n hx hb dX12_readsTenant_113 rfl (lv_at hl 1 rfl) ?_
          refine k_V (wr := (mWa γ z10 z11 z12 z13 z14 z15 z16 z17 z18 z19 z22 z23 ((a.1), (a.2.1), (a.2.2.1), (a.2.2.2.1), (a.2.2.2.2.1), (a.2.2.2.2.2.1), (upd (a.2.2.2.2.2.2.1) ((5 + ((a.1) 6)) : Int32).toNatClampNeg 1), (a.2.2.2.2.2.2.2.1), (a.2.2.2.2.2.2.2.2.1), (a.2.2.2.2.2.2.2.2.2.1), (a.2.2.2.2.2.2.2.2.2.2.1), (a.2.2.2.2.2.2.2.2.2.2.2)))) 0 gw_1402 gw_1404 gp_54 gw_15 gw_1405 hd_X12_nextToken hC hw (c_mv γ l z z2 z10 z11 z12 z13 z14 z15 z16 z17 z18 z19 z22 z23 z24 z25 z26 z27 z28 z29 z30 z31 z32 z33 z36 z37 z38 z39 z40 z41 z42 z43 z44 z45 z46 z47 z48 z55 z56 z59 z60 z61 n0 n1 n49 n50 n51 n52 n53 n54 n57 n58 n62 n63 n g ((F_m_needsNew g n (mv g n rs) a).2) hn) ⟨by decide, by decide⟩ ⟨by decide, by decide⟩ hl.1 rfl 12 rfl rfl rfl (Nat.le_of_ble_eq_true rfl) [12, 13] [0, 1, 2, 3, 4, 5, 6, 7, 8, 9, 10, 11] rfl rfl rfl rfl (by decide) dX12_readsTenant_114 (fun r w1 H locs hq hw => ?_)
          obtain ⟨rfl, rfl⟩ := hq
          have hw : kW γ A ((mWa γ z10 z11 z12 z13 z14 z15 z16 z17 z18 z19 z22 z23 ((a.1), (a.2.1), (a.2.2.1), (a.2.2.2.1), (a.2.2.2.2.1), (a.2.2.2.2.2.1), (upd (a.2.2.2.2.2.2.1) ((5 + ((a.1) 6)) : Int32).toNatClampNeg 1), (a.2.2.2.2.2.2.2.1), (a.2.2.2.2.2.2.2.2.1), (a.2.2.2.2.2.2.2.2.2.1), (a.2.2.2.2.2.2.2.2.2.2.1), (a.2.2.2.2.2.2.2.2.2.2.2))) ++ (mWz γ z z2 z10 z11 z12 z13 z14 z15 z16 z17 z18 z19 z22 z23 z24 z25 z26 z27 z28 z29 z30 z31 z32 z33 z36 z37 z38 z39 z40 z41 z42 z43 z44 z45 z46 z47 z48 z55 z56 z59 z60 z61 n0 n1 n49 n50 n51 n52 n53 n54 n57 n58 n62 n63 g n (mv g n ((F_m_needsNew g n (mv g n rs) a).2)))) s H locs := hw
          refine W.eq (g2 := F0 m 117 ls []) rfl ?_
          refine lv_aload_n hx hb dX12_readsTenant_117 rfl (lv_at hl 1 rfl) ?_
          refine fg_RX12_20 hC hw 12 rfl rfl dX12_readsTenant_118 ?_
          refine lv_iload_n hx hb dX12_readsTenant_121 rfl (lv_at hl 0 rfl) ?_
          refine lv_aload_n hx hb dX12_readsTenant_122 rfl (lv_at hl 1 rfl) ?_
          refine fg_RX12_283 hC hw 12 rfl rfl dX12_readsTenant_123 ?_
          refine k_last hC hw 2 rfl (in10 hM.2.1 hM.2.2 c_188) dX12_readsTenant_126 (fun H locs hw => ?_)
          have hw : kW γ A ((mWa γ z10 z11 z12 z13 z14 z15 z16 z17 z18 z19 z22 z23 ((a.1), (a.2.1), (vp_updL (a.2.2.1) ((5 + ((a.1) 6)) : Int32).toNatClampNeg ((mv g n ((F_m_needsNew g n (mv g n rs) a).2)).2.2.2.1)), (a.2.2.2.1), (a.2.2.2.2.1), (a.2.2.2.2.2.1), (upd (a.2.2.2.2.2.2.1) ((5 + ((a.1) 6)) : Int32).toNatClampNeg 1), (a.2.2.2.2.2.2.2.1), (a.2.2.2.2.2.2.2.2.1), (a.2.2.2.2.2.2.2.2.2.1), (a.2.2.2.2.2.2.2.2.2.2.1), (a.2.2.2.2.2.2.2.2.2.2.2))) ++ (mWz γ z z2 z10 z11 z12 z13 z14 z15 z16 z17 z18 z19 z22 z23 z24 z25 z26 z27 z28 z29 z30 z31 z32 z33 z36 z37 z38 z39 z40 z41 z42 z43 z44 z45 z46 z47 z48 z55 z56 z59 z60 z61 n0 n1 n49 n50 n51 n52 n53 n54 n57 n58 n62 n63 g n (mv g n ((F_m_needsNew g n (mv g n rs) a).2)))) s H locs := hw
          refine lv_aload_n hx hb dX12_readsTenant_127 rfl (lv_at hl 1 rfl) ?_
          refine fg_RX12_13 hC hw 12 rfl rfl dX12_readsTenant_128 ?_
          refine lv_bipush (v := 6) hx hb dX12_readsTenant_131 (by decide) ?_
          refine lv_dup2_11 hx hb dX12_readsTenant_133 rfl rfl ?_
          refine k_iald hC hw 0 rfl (k_in0 (by decide)) dX12_readsTenant_134 ?_
          refine lv_topi (fun x_200 ex_200 => ?_)
          obtain rfl : x_200 = ((a.1) 6) := ex_200
          refine lv_iconst (v := 1) hx hb dX12_readsTenant_135 (by decide) ?_
          refine lv_iadd hx hb dX12_readsTenant_136 ?_
          refine k_iast hC hw 0 rfl (k_in0 (by decide)) dX12_readsTenant_137 (fun H locs hw => ?_)
          have hw : kW γ A ((mWa γ z10 z11 z12 z13 z14 z15 z16 z17 z18 z19 z22 z23 ((upd (a.1) 6 (((a.1) 6) + 1)), (a.2.1), (vp_updL (a.2.2.1) ((5 + ((a.1) 6)) : Int32).toNatClampNeg ((mv g n ((F_m_needsNew g n (mv g n rs) a).2)).2.2.2.1)), (a.2.2.2.1), (a.2.2.2.2.1), (a.2.2.2.2.2.1), (upd (a.2.2.2.2.2.2.1) ((5 + ((a.1) 6)) : Int32).toNatClampNeg 1), (a.2.2.2.2.2.2.2.1), (a.2.2.2.2.2.2.2.2.1), (a.2.2.2.2.2.2.2.2.2.1), (a.2.2.2.2.2.2.2.2.2.2.1), (a.2.2.2.2.2.2.2.2.2.2.2))) ++ (mWz γ z z2 z10 z11 z12 z13 z14 z15 z16 z17 z18 z19 z22 z23 z24 z25 z26 z27 z28 z29 z30 z31 z32 z33 z36 z37 z38 z39 z40 z41 z42 z43 z44 z45 z46 z47 z48 z55 z56 z59 z60 z61 n0 n1 n49 n50 n51 n52 n53 n54 n57 n58 n62 n63 g n (mv g n ((F_m_needsNew g n (mv g n rs) a).2)))) s H locs := hw
          refine lv_aload_n hx hb dX12_readsTenant_138 rfl (lv_at hl 1 rfl) ?_
          refine k_V (wr := (mWa γ z10 z11 z12 z13 z14 z15 z16 z17 z18 z19 z22 z23 ((upd (a.1) 6 (((a.1) 6) + 1)), (a.2.1), (vp_updL (a.2.2.1) ((5 + ((a.1) 6)) : Int32).toNatClampNeg ((mv g n ((F_m_needsNew g n (mv g n rs) a).2)).2.2.2.1)), (a.2.2.2.1), (a.2.2.2.2.1), (a.2.2.2.2.2.1), (upd (a.2.2.2.2.2.2.1) ((5 + ((a.1) 6)) : Int32).toNatClampNeg 1), (a.2.2.2.2.2.2.2.1), (a.2.2.2.2.2.2.2.2.1), (a.2.2.2.2.2.2.2.2.2.1), (a.2.2.2.2.2.2.2.2.2.2.1), (a.2.2.2.2.2.2.2.2.2.2.2)))) 0 gw_1471 gw_1473 gp_65 gw_15 gw_1474 hd_X12_closes hC hw (c_m_closes γ l z z2 z10 z11 z12 z13 z14 z15 z16 z17 z18 z19 z22 z23 z24 z25 z26 z27 z28 z29 z30 z31 z32 z33 z36 z37 z38 z39 z40 z41 z42 z43 z44 z45 z46 z47 z48 z55 z56 z59 z60 z61 n0 n1 n49 n50 n51 n52 n53 n54 n57 n58 n62 n63 n g (mv g n ((F_m_needsNew g n (mv g n rs) a).2)) hn) ⟨by decide, by decide⟩ ⟨by decide, by decide⟩ hl.1 rfl 12 rfl rfl rfl (Nat.le_of_ble_eq_true rfl) [12, 13] [0, 1, 2, 3, 4, 5, 6, 7, 8, 9, 10, 11] rfl rfl rfl rfl (by decide) dX12_readsTenant_139 (fun r w1 H locs hq hw => ?_)
          obtain ⟨rfl, rfl⟩ := hq
          have hw : kW γ A ((mWa γ z10 z11 z12 z13 z14 z15 z16 z17 z18 z19 z22 z23 ((upd (a.1) 6 (((a.1) 6) + 1)), (a.2.1), (vp_updL (a.2.2.1) ((5 + ((a.1) 6)) : Int32).toNatClampNeg ((mv g n ((F_m_needsNew g n (mv g n rs) a).2)).2.2.2.1)), (a.2.2.2.1), (a.2.2.2.2.1), (a.2.2.2.2.2.1), (upd (a.2.2.2.2.2.2.1) ((5 + ((a.1) 6)) : Int32).toNatClampNeg 1), (a.2.2.2.2.2.2.2.1), (a.2.2.2.2.2.2.2.2.1), (a.2.2.2.2.2.2.2.2.2.1), (a.2.2.2.2.2.2.2.2.2.2.1), (a.2.2.2.2.2.2.2.2.2.2.2))) ++ (mWz γ z z2 z10 z11 z12 z13 z14 z15 z16 z17 z18 z19 z22 z23 z24 z25 z26 z27 z28 z29 z30 z31 z32 z33 z36 z37 z38 z39 z40 z41 z42 z43 z44 z45 z46 z47 z48 z55 z56 z59 z60 z61 n0 n1 n49 n50 n51 n52 n53 n54 n57 n58 n62 n63 g n ((F_m_closes g n (mv g n ((F_m_needsNew g n (mv g n rs) a).2))).2))) s H locs := hw
          refine W.eq (g2 := F0 m 142 ls [.int ((F_m_closes g n (mv g n ((F_m_needsNew g n (mv g n rs) a).2))).1)]) rfl ?_
          have hE : (F_m_readsTenant g n rs a) = (((F_m_closes g n (mv g n ((F_m_needsNew g n (mv g n rs) a).2))).1), ((F_m_closes g n (mv g n ((F_m_needsNew g n (mv g n rs) a).2))).2), ((upd (a.1) 6 (((a.1) 6) + 1)), (a.2.1), (vp_updL (a.2.2.1) ((5 + ((a.1) 6)) : Int32).toNatClampNeg ((mv g n ((F_m_needsNew g n (mv g n rs) a).2)).2.2.2.1)), (a.2.2.2.1), (a.2.2.2.2.1), (a.2.2.2.2.2.1), (upd (a.2.2.2.2.2.2.1) ((5 + ((a.1) 6)) : Int32).toNatClampNeg 1), (a.2.2.2.2.2.2.2.1), (a.2.2.2.2.2.2.2.2.1), (a.2.2.2.2.2.2.2.2.2.1), (a.2.2.2.2.2.2.2.2.2.2.1), (a.2.2.2.2.2.2.2.2.2.2.2))) := by unfold F_m_readsTenant; rw [if_neg c_188, if_neg c_189, if_pos c_190, if_neg c_191]
          have hw : kW γ A ((mWa γ z10 z11 z12 z13 z14 z15 z16 z17 z18 z19 z22 z23 ((F_m_readsTenant g n rs a).2.2)) ++ (mWz γ z z2 z10 z11 z12 z13 z14 z15 z16 z17 z18 z19 z22 z23 z24 z25 z26 z27 z28 z29 z30 z31 z32 z33 z36 z37 z38 z39 z40 z41 z42 z43 z44 z45 z46 z47 z48 z55 z56 z59 z60 z61 n0 n1 n49 n50 n51 n52 n53 n54 n57 n58 n62 n63 g n ((F_m_readsTenant g n rs a).2.1))) s H locs := by first | (rw [hE]; exact hw) | exact hw
          exact k_zret hC hr hlocks (zb b_closes) hw [12, 13, 0, 1, 2, 3, 4, 5, 6, 7, 8, 9, 10, 11] rfl rfl ⟨by rw [hE], rfl⟩ (by decide) (by decide) dX12_readsTenant_142
      · refine lv_iconst (v := 0) hx hb dX12_readsTenant_50 (by decide) ?_
        refine lv_goto (tgt := 97) hx hb dX12_readsTenant_51 (by decide) ?_
        refine k_iast hC hw 6 rfl (in10 hM.2.1 hM.2.2 c_188) dX12_readsTenant_97 (fun H locs hw => ?_)
        have hw : kW γ A ((mWa γ z10 z11 z12 z13 z14 z15 z16 z17 z18 z19 z22 z23 ((a.1), (a.2.1), (a.2.2.1), (a.2.2.2.1), (a.2.2.2.2.1), (a.2.2.2.2.2.1), (upd (a.2.2.2.2.2.2.1) ((5 + ((a.1) 6)) : Int32).toNatClampNeg 0), (a.2.2.2.2.2.2.2.1), (a.2.2.2.2.2.2.2.2.1), (a.2.2.2.2.2.2.2.2.2.1), (a.2.2.2.2.2.2.2.2.2.2.1), (a.2.2.2.2.2.2.2.2.2.2.2))) ++ (mWz γ z z2 z10 z11 z12 z13 z14 z15 z16 z17 z18 z19 z22 z23 z24 z25 z26 z27 z28 z29 z30 z31 z32 z33 z36 z37 z38 z39 z40 z41 z42 z43 z44 z45 z46 z47 z48 z55 z56 z59 z60 z61 n0 n1 n49 n50 n51 n52 n53 n54 n57 n58 n62 n63 g n ((F_m_needsNew g n (mv g n rs) a).2))) s H locs := hw
        refine lv_aload_n hx hb dX12_readsTenant_98 rfl (lv_at hl 1 rfl) ?_
        refine fg_RX12_32 hC hw 12 rfl rfl dX12_readsTenant_99 ?_
        refine lv_iload_n hx hb dX12_readsTenant_102 rfl (lv_at hl 0 rfl) ?_
        refine k_iald hC hw 6 rfl (in10 hM.2.1 hM.2.2 c_188) dX12_readsTenant_103 ?_
        refine lv_topi (fun x_201 ex_201 => ?_)
        obtain rfl : x_201 = 0 := ex_201.trans (if_pos rfl)
        refine lv_if_ge (tgt := 113) hx hb dX12_readsTenant_104 (by decide) (fun _ => ?_) (fun h => absurd (by decide) h)
        refine lv_aload_n hx hb dX12_readsTenant_113 rfl (lv_at hl 1 rfl) ?_
        refine k_V (wr := (mWa γ z10 z11 z12 z13 z14 z15 z16 z17 z18 z19 z22 z23 ((a.1), (a.2.1), (a.2.2.1), (a.2.2.2.1), (a.2.2.2.2.1), (a.2.2.2.2.2.1), (upd (a.2.2.2.2.2.2.1) ((5 + ((a.1) 6)) : Int32).toNatClampNeg 0), (a.2.2.2.2.2.2.2.1), (a.2.2.2.2.2.2.2.2.1), (a.2.2.2.2.2.2.2.2.2.1), (a.2.2.2.2.2.2.2.2.2.2.1), (a.2.2.2.2.2.2.2.2.2.2.2)))) 0 gw_1402 gw_1404 gp_54 gw_15 gw_1405 hd_X12_nextToken hC hw (c_mv γ l z z2 z10 z11 z12 z13 z14 z15 z16 z17 z18 z19 z22 z23 z24 z25 z26 z27 z28 z29 z30 z31 z32 z33 z36 z37 z38 z39 z40 z41 z42 z43 z44 z45 z46 z47 z48 z55 z56 z59 z60 z61 n0 n1 n49 n50 n51 n52 n53 n54 n57 n58 n62 n63 n g ((F_m_needsNew g n (mv g n rs) a).2) hn) ⟨by decide, by decide⟩ ⟨by decide, by decide⟩ hl.1 rfl 12 rfl rfl rfl (Nat.le_of_ble_eq_true rfl) [12, 13] [0, 1, 2, 3, 4, 5, 6, 7, 8, 9, 10, 11] rfl rfl rfl rfl (by decide) dX12_readsTenant_114 (fun r w1 H locs hq hw => ?_)
        obtain ⟨rfl, rfl⟩ := hq
        have hw : kW γ A ((mWa γ z10 z11 z12 z13 z14 z15 z16 z17 z18 z19 z22 z23 ((a.1), (a.2.1), (a.2.2.1), (a.2.2.2.1), (a.2.2.2.2.1), (a.2.2.2.2.2.1), (upd (a.2.2.2.2.2.2.1) ((5 + ((a.1) 6)) : Int32).toNatClampNeg 0), (a.2.2.2.2.2.2.2.1), (a.2.2.2.2.2.2.2.2.1), (a.2.2.2.2.2.2.2.2.2.1), (a.2.2.2.2.2.2.2.2.2.2.1), (a.2.2.2.2.2.2.2.2.2.2.2))) ++ (mWz γ z z2 z10 z11 z12 z13 z14 z15 z16 z17 z18 z19 z22 z23 z24 z25 z26 z27 z28 z29 z30 z31 z32 z33 z36 z37 z38 z39 z40 z41 z42 z43 z44 z45 z46 z47 z48 z55 z56 z59 z60 z61 n0 n1 n49 n50 n51 n52 n53 n54 n57 n58 n62 n63 g n (mv g n ((F_m_needsNew g n (mv g n rs) a).2)))) s H locs := hw
        refine W.eq (g2 := F0 m 117 ls []) rfl ?_
        refine lv_aload_n hx hb dX12_readsTenant_117 rfl (lv_at hl 1 rfl) ?_
        refine fg_RX12_20 hC hw 12 rfl rfl dX12_readsTenant_118 ?_
        refine lv_iload_n hx hb dX12_readsTenant_121 rfl (lv_at hl 0 rfl) ?_
        refine lv_aload_n hx hb dX12_readsTenant_122 rfl (lv_at hl 1 rfl) ?_
        refine fg_RX12_283 hC hw 12 rfl rfl dX12_readsTenant_123 ?_
        refine k_last hC hw 2 rfl (in10 hM.2.1 hM.2.2 c_188) dX12_readsTenant_126 (fun H locs hw => ?_)
        have hw : kW γ A ((mWa γ z10 z11 z12 z13 z14 z15 z16 z17 z18 z19 z22 z23 ((a.1), (a.2.1), (vp_updL (a.2.2.1) ((5 + ((a.1) 6)) : Int32).toNatClampNeg ((mv g n ((F_m_needsNew g n (mv g n rs) a).2)).2.2.2.1)), (a.2.2.2.1), (a.2.2.2.2.1), (a.2.2.2.2.2.1), (upd (a.2.2.2.2.2.2.1) ((5 + ((a.1) 6)) : Int32).toNatClampNeg 0), (a.2.2.2.2.2.2.2.1), (a.2.2.2.2.2.2.2.2.1), (a.2.2.2.2.2.2.2.2.2.1), (a.2.2.2.2.2.2.2.2.2.2.1), (a.2.2.2.2.2.2.2.2.2.2.2))) ++ (mWz γ z z2 z10 z11 z12 z13 z14 z15 z16 z17 z18 z19 z22 z23 z24 z25 z26 z27 z28 z29 z30 z31 z32 z33 z36 z37 z38 z39 z40 z41 z42 z43 z44 z45 z46 z47 z48 z55 z56 z59 z60 z61 n0 n1 n49 n50 n51 n52 n53 n54 n57 n58 n62 n63 g n (mv g n ((F_m_needsNew g n (mv g n rs) a).2)))) s H locs := hw
        refine lv_aload_n hx hb dX12_readsTenant_127 rfl (lv_at hl 1 rfl) ?_
        refine fg_RX12_13 hC hw 12 rfl rfl dX12_readsTenant_128 ?_
        refine lv_bipush (v := 6) hx hb dX12_readsTenant_131 (by decide) ?_
        refine lv_dup2_11 hx hb dX12_readsTenant_133 rfl rfl ?_
        refine k_iald hC hw 0 rfl (k_in0 (by decide)) dX12_readsTenant_134 ?_
        refine lv_topi (fun x_202 ex_202 => ?_)
        obtain rfl : x_202 = ((a.1) 6) := ex_202
        refine lv_iconst (v := 1) hx hb dX12_readsTenant_135 (by decide) ?_
        refine lv_iadd hx hb dX12_readsTenant_136 ?_
        refine k_iast hC hw 0 rfl (k_in0 (by decide)) dX12_readsTenant_137 (fun H locs hw => ?_)
        have hw : kW γ A ((mWa γ z10 z11 z12 z13 z14 z15 z16 z17 z18 z19 z22 z23 ((upd (a.1) 6 (((a.1) 6) + 1)), (a.2.1), (vp_updL (a.2.2.1) ((5 + ((a.1) 6)) : Int32).toNatClampNeg ((mv g n ((F_m_needsNew g n (mv g n rs) a).2)).2.2.2.1)), (a.2.2.2.1), (a.2.2.2.2.1), (a.2.2.2.2.2.1), (upd (a.2.2.2.2.2.2.1) ((5 + ((a.1) 6)) : Int32).toNatClampNeg 0), (a.2.2.2.2.2.2.2.1), (a.2.2.2.2.2.2.2.2.1), (a.2.2.2.2.2.2.2.2.2.1), (a.2.2.2.2.2.2.2.2.2.2.1), (a.2.2.2.2.2.2.2.2.2.2.2))) ++ (mWz γ z z2 z10 z11 z12 z13 z14 z15 z16 z17 z18 z19 z22 z23 z24 z25 z26 z27 z28 z29 z30 z31 z32 z33 z36 z37 z38 z39 z40 z41 z42 z43 z44 z45 z46 z47 z48 z55 z56 z59 z60 z61 n0 n1 n49 n50 n51 n52 n53 n54 n57 n58 n62 n63 g n (mv g n ((F_m_needsNew g n (mv g n rs) a).2)))) s H locs := hw
        refine lv_aload_n hx hb dX12_readsTenant_138 rfl (lv_at hl 1 rfl) ?_
        refine k_V (wr := (mWa γ z10 z11 z12 z13 z14 z15 z16 z17 z18 z19 z22 z23 ((upd (a.1) 6 (((a.1) 6) + 1)), (a.2.1), (vp_updL (a.2.2.1) ((5 + ((a.1) 6)) : Int32).toNatClampNeg ((mv g n ((F_m_needsNew g n (mv g n rs) a).2)).2.2.2.1)), (a.2.2.2.1), (a.2.2.2.2.1), (a.2.2.2.2.2.1), (upd (a.2.2.2.2.2.2.1) ((5 + ((a.1) 6)) : Int32).toNatClampNeg 0), (a.2.2.2.2.2.2.2.1), (a.2.2.2.2.2.2.2.2.1), (a.2.2.2.2.2.2.2.2.2.1), (a.2.2.2.2.2.2.2.2.2.2.1), (a.2.2.2.2.2.2.2.2.2.2.2)))) 0 gw_1471 gw_1473 gp_65 gw_15 gw_1474 hd_X12_closes hC hw (c_m_closes γ l z z2 z10 z11 z12 z13 z14 z15 z16 z17 z18 z19 z22 z23 z24 z25 z26 z27 z28 z29 z30 z31 z32 z33 z36 z37 z38 z39 z40 z41 z42 z43 z44 z45 z46 z47 z48 z55 z56 z59 z60 z61 n0 n1 n49 n50 n51 n52 n53 n54 n57 n58 n62 n63 n g (mv g n ((F_m_needsNew g n (mv g n rs) a).2)) hn) ⟨by decide, by decide⟩ ⟨by decide, by decide⟩ hl.1 rfl 12 rfl rfl rfl (Nat.le_of_ble_eq_true rfl) [12, 13] [0, 1, 2, 3, 4, 5, 6, 7, 8, 9, 10, 11] rfl rfl rfl rfl (by decide) dX12_readsTenant_139 (fun r w1 H locs hq hw => ?_)
        obtain ⟨rfl, rfl⟩ := hq
        have hw : kW γ A ((mWa γ z10 z11 z12 z13 z14 z15 z16 z17 z18 z19 z22 z23 ((upd (a.1) 6 (((a.1) 6) + 1)), (a.2.1), (vp_updL (a.2.2.1) ((5 + ((a.1) 6)) : Int32).toNatClampNeg ((mv g n ((F_m_needsNew g n (mv g n rs) a).2)).2.2.2.1)), (a.2.2.2.1), (a.2.2.2.2.1), (a.2.2.2.2.2.1), (upd (a.2.2.2.2.2.2.1) ((5 + ((a.1) 6)) : Int32).toNatClampNeg 0), (a.2.2.2.2.2.2.2.1), (a.2.2.2.2.2.2.2.2.1), (a.2.2.2.2.2.2.2.2.2.1), (a.2.2.2.2.2.2.2.2.2.2.1), (a.2.2.2.2.2.2.2.2.2.2.2))) ++ (mWz γ z z2 z10 z11 z12 z13 z14 z15 z16 z17 z18 z19 z22 z23 z24 z25 z26 z27 z28 z29 z30 z31 z32 z33 z36 z37 z38 z39 z40 z41 z42 z43 z44 z45 z46 z47 z48 z55 z56 z59 z60 z61 n0 n1 n49 n50 n51 n52 n53 n54 n57 n58 n62 n63 g n ((F_m_closes g n (mv g n ((F_m_needsNew g n (mv g n rs) a).2))).2))) s H locs := hw
        refine W.eq (g2 := F0 m 142 ls [.int ((F_m_closes g n (mv g n ((F_m_needsNew g n (mv g n rs) a).2))).1)]) rfl ?_
        have hE : (F_m_readsTenant g n rs a) = (((F_m_closes g n (mv g n ((F_m_needsNew g n (mv g n rs) a).2))).1), ((F_m_closes g n (mv g n ((F_m_needsNew g n (mv g n rs) a).2))).2), ((upd (a.1) 6 (((a.1) 6) + 1)), (a.2.1), (vp_updL (a.2.2.1) ((5 + ((a.1) 6)) : Int32).toNatClampNeg ((mv g n ((F_m_needsNew g n (mv g n rs) a).2)).2.2.2.1)), (a.2.2.2.1), (a.2.2.2.2.1), (a.2.2.2.2.2.1), (upd (a.2.2.2.2.2.2.1) ((5 + ((a.1) 6)) : Int32).toNatClampNeg 0), (a.2.2.2.2.2.2.2.1), (a.2.2.2.2.2.2.2.2.1), (a.2.2.2.2.2.2.2.2.2.1), (a.2.2.2.2.2.2.2.2.2.2.1), (a.2.2.2.2.2.2.2.2.2.2.2))) := by unfold F_m_readsTenant; rw [if_neg c_188, if_neg c_189, if_neg c_190]
        have hw : kW γ A ((mWa γ z10 z11 z12 z13 z14 z15 z16 z17 z18 z19 z22 z23 ((F_m_readsTenant g n rs a).2.2)) ++ (mWz γ z z2 z10 z11 z12 z13 z14 z15 z16 z17 z18 z19 z22 z23 z24 z25 z26 z27 z28 z29 z30 z31 z32 z33 z36 z37 z38 z39 z40 z41 z42 z43 z44 z45 z46 z47 z48 z55 z56 z59 z60 z61 n0 n1 n49 n50 n51 n52 n53 n54 n57 n58 n62 n63 g n ((F_m_readsTenant g n rs a).2.1))) s H locs := by first | (rw [hE]; exact hw) | exact hw
        exact k_zret hC hr hlocks (zb b_closes) hw [12, 13, 0, 1, 2, 3, 4, 5, 6, 7, 8, 9, 10, 11] rfl rfl ⟨by rw [hE], rfl⟩ (by decide) (by decide) dX12_readsTenant_142
    · refine lv_iconst (v := 0) hx hb dX12_readsTenant_33 (by decide) ?_
      have hE : (F_m_readsTenant g n rs a) = (0, ((F_m_needsNew g n (mv g n rs) a).2), a) := by unfold F_m_readsTenant; rw [if_neg c_188, if_pos c_189]
      have hw : kW γ A ((mWz γ z z2 z10 z11 z12 z13 z14 z15 z16 z17 z18 z19 z22 z23 z24 z25 z26 z27 z28 z29 z30 z31 z32 z33 z36 z37 z38 z39 z40 z41 z42 z43 z44 z45 z46 z47 z48 z55 z56 z59 z60 z61 n0 n1 n49 n50 n51 n52 n53 n54 n57 n58 n62 n63 g n ((F_m_readsTenant g n rs a).2.1)) ++ (mWa γ z10 z11 z12 z13 z14 z15 z16 z17 z18 z19 z22 z23 ((F_m_readsTenant g n rs a).2.2))) s H locs := by first | (rw [hE]; exact hw) | exact hw
      exact k_zret hC hr hlocks rfl hw [0, 1, 2, 3, 4, 5, 6, 7, 8, 9, 10, 11, 12, 13] rfl rfl ⟨by rw [hE], rfl⟩ (by decide) (by decide) dX12_readsTenant_34
  · refine lv_aload_n hx hb dX12_readsTenant_16 rfl (lv_at hl 1 rfl) ?_
    refine lv_iconst (v := 5) hx hb dX12_readsTenant_17 (by decide) ?_
    refine k_V (wr := (mWa γ z10 z11 z12 z13 z14 z15 z16 z17 z18 z19 z22 z23 a)) 1 gw_1421 gw_1423 gp_58 gw_15 gw_1424 hd_X12_fails hC hw (c_m_fails γ l z z2 z10 z11 z12 z13 z14 z15 z16 z17 z18 z19 z22 z23 z24 z25 z26 z27 z28 z29 z30 z31 z32 z33 z36 z37 z38 z39 z40 z41 z42 z43 z44 z45 z46 z47 z48 z55 z56 z59 z60 z61 n0 n1 n49 n50 n51 n52 n53 n54 n57 n58 n62 n63 n g rs 5 hn) ⟨by decide, by decide⟩ ⟨by decide, by decide⟩ hl.1 rfl 0 rfl rfl rfl (Nat.le_of_ble_eq_true rfl) [0, 1] [2, 3, 4, 5, 6, 7, 8, 9, 10, 11, 12, 13] rfl rfl rfl rfl (by decide) dX12_readsTenant_18 (fun r w1 H locs hq hw => ?_)
    obtain ⟨rfl, rfl⟩ := hq
    have hw : kW γ A ((mWa γ z10 z11 z12 z13 z14 z15 z16 z17 z18 z19 z22 z23 a) ++ (mWz γ z z2 z10 z11 z12 z13 z14 z15 z16 z17 z18 z19 z22 z23 z24 z25 z26 z27 z28 z29 z30 z31 z32 z33 z36 z37 z38 z39 z40 z41 z42 z43 z44 z45 z46 z47 z48 z55 z56 z59 z60 z61 n0 n1 n49 n50 n51 n52 n53 n54 n57 n58 n62 n63 g n (F_m_fails g n rs 5))) s H locs := hw
    refine W.eq (g2 := F0 m 21 ls [.int 0]) rfl ?_
    have hE : (F_m_readsTenant g n rs a) = (0, (F_m_fails g n rs 5), a) := by unfold F_m_readsTenant; rw [if_pos c_188]
    have hw : kW γ A ((mWa γ z10 z11 z12 z13 z14 z15 z16 z17 z18 z19 z22 z23 ((F_m_readsTenant g n rs a).2.2)) ++ (mWz γ z z2 z10 z11 z12 z13 z14 z15 z16 z17 z18 z19 z22 z23 z24 z25 z26 z27 z28 z29 z30 z31 z32 z33 z36 z37 z38 z39 z40 z41 z42 z43 z44 z45 z46 z47 z48 z55 z56 z59 z60 z61 n0 n1 n49 n50 n51 n52 n53 n54 n57 n58 n62 n63 g n ((F_m_readsTenant g n rs a).2.1))) s H locs := by first | (rw [hE]; exact hw) | exact hw
    exact k_zret hC hr hlocks rfl hw [12, 13, 0, 1, 2, 3, 4, 5, 6, 7, 8, 9, 10, 11] rfl rfl ⟨by rw [hE], rfl⟩ (by decide) (by decide) dX12_readsTenant_21

def F_m_readsOne2 (g : Nat → Int32) (n : Nat) (rs : mRS) (a : mAS) (lo : Int32) (hi : Int32) : Int32 × mRS × mAS :=
  if (((rs.2.2.2.2.1) >>> (2 &&& 31)) &&& 1) = 1 then (0, (F_m_fails g n rs 3), a) else (if ((F_m_needsNumber g n (mv g n ((rs.1), (rs.2.1), (rs.2.2.1), (rs.2.2.2.1), ((rs.2.2.2.2.1) ||| 4), (rs.2.2.2.2.2))) lo hi).1) = 0 then (0, ((F_m_needsNumber g n (mv g n ((rs.1), (rs.2.1), (rs.2.2.1), (rs.2.2.2.1), ((rs.2.2.2.2.1) ||| 4), (rs.2.2.2.2.2))) lo hi).2), a) else (((F_m_closes g n ((F_m_needsNumber g n (mv g n ((rs.1), (rs.2.1), (rs.2.2.1), (rs.2.2.2.1), ((rs.2.2.2.2.1) ||| 4), (rs.2.2.2.2.2))) lo hi).2)).1), ((F_m_closes g n ((F_m_needsNumber g n (mv g n ((rs.1), (rs.2.1), (rs.2.2.1), (rs.2.2.2.1), ((rs.2.2.2.2.1) ||| 4), (rs.2.2.2.2.2))) lo hi).2)).2), ((upd (a.1) 7 (((F_m_needsNumber g n (mv g n ((rs.1), (rs.2.1), (rs.2.2.1), (rs.2.2.2.1), ((rs.2.2.2.2.1) ||| 4), (rs.2.2.2.2.2))) lo hi).2).2.2.1)), (a.2.1), (a.2.2.1), (a.2.2.2.1), (a.2.2.2.2.1), (a.2.2.2.2.2.1), (a.2.2.2.2.2.2.1), (a.2.2.2.2.2.2.2.1), (a.2.2.2.2.2.2.2.2.1), (a.2.2.2.2.2.2.2.2.2.1), (a.2.2.2.2.2.2.2.2.2.2.1), (a.2.2.2.2.2.2.2.2.2.2.2))))
set_option maxHeartbeats 4000000 in
set_option maxRecDepth 100000 in
theorem c_m_readsOne2 (γ : kΓ) (l : Launch) (z : Nat) (z2 : Nat) (z10 : Nat) (z11 : Nat) (z12 : Nat) (z13 : Nat) (z14 : Nat) (z15 : Nat) (z16 : Nat) (z17 : Nat) (z18 : Nat) (z19 : Nat) (z22 : Nat) (z23 : Nat) (z24 : Nat) (z25 : Nat) (z26 : Nat) (z27 : Nat) (z28 : Nat) (z29 : Nat) (z30 : Nat) (z31 : Nat) (z32 : Nat) (z33 : Nat) (z36 : Nat) (z37 : Nat) (z38 : Nat) (z39 : Nat) (z40 : Nat) (z41 : Nat) (z42 : Nat) (z43 : Nat) (z44 : Nat) (z45 : Nat) (z46 : Nat) (z47 : Nat) (z48 : Nat) (z55 : Nat) (z56 : Nat) (z59 : Nat) (z60 : Nat) (z61 : Nat) (n0 : Int32) (n1 : Int32) (n49 : Int32) (n50 : Int32) (n51 : Int32) (n52 : Int32) (n53 : Int32) (n54 : Int32) (n57 : Int32) (n58 : Int32) (n62 : Int32) (n63 : Int64) (n : Nat) (g : Nat → Int32) (rs : mRS) (a : mAS) (lo : Int32) (hi : Int32) (hn : n ≤ 1000) : kM γ l yX12_readsOne cX12_readsOne 4 ((some .boolean)) ({ frames := 3, cells := 0, slots := 0, locals := 83 } : Room) [.ref z, .int 2, .int lo, .int hi] ((mWz γ z z2 z10 z11 z12 z13 z14 z15 z16 z17 z18 z19 z22 z23 z24 z25 z26 z27 z28 z29 z30 z31 z32 z33 z36 z37 z38 z39 z40 z41 z42 z43 z44 z45 z46 z47 z48 z55 z56 z59 z60 z61 n0 n1 n49 n50 n51 n52 n53 n54 n57 n58 n62 n63 g n rs) ++ (mWa γ z10 z11 z12 z13 z14 z15 z16 z17 z18 z19 z22 z23 a)) (fun r w1 => r = some (.int ((F_m_readsOne2 g n rs a lo hi).1)) ∧ w1 = ((mWz γ z z2 z10 z11 z12 z13 z14 z15 z16 z17 z18 z19 z22 z23 z24 z25 z26 z27 z28 z29 z30 z31 z32 z33 z36 z37 z38 z39 z40 z41 z42 z43 z44 z45 z46 z47 z48 z55 z56 z59 z60 z61 n0 n1 n49 n50 n51 n52 n53 n54 n57 n58 n62 n63 g n ((F_m_readsOne2 g n rs a lo hi).2.1)) ++ (mWa γ z10 z11 z12 z13 z14 z15 z16 z17 z18 z19 z22 z23 ((F_m_readsOne2 g n rs a lo hi).2.2)))) := by
  refine k_ofW (by decide) (Nat.le_of_ble_eq_true rfl) ?_
  intro p9 e s m below meth c A ls hC hr hlocks hname hw hl
  have hx := hC.1
  have hb := hC.2.1
  have hl : lv_has ls 4 [(0, .ref z), (1, .int 2), (2, .int lo), (3, .int hi)] := hl
  refine lv_aload_n hx hb dX12_readsOne_0 rfl (lv_at hl 0 rfl) ?_
  refine fg_RX12_299 hC hw 0 rfl rfl dX12_readsOne_1 ?_
  refine lv_iload_n hx hb dX12_readsOne_4 rfl (lv_at hl 1 rfl) ?_
  refine lv_ishr hx hb dX12_readsOne_5 ?_
  refine lv_iconst (v := 1) hx hb dX12_readsOne_6 (by decide) ?_
  refine lv_iand hx hb dX12_readsOne_7 ?_
  refine lv_iconst (v := 1) hx hb dX12_readsOne_8 (by decide) ?_
  refine lv_icmp_ne (tgt := 18) hx hb dX12_readsOne_9 (by decide) (fun c_207 => ?_) (fun c_207 => ?_)
  · refine lv_aload_n hx hb dX12_readsOne_18 rfl (lv_at hl 0 rfl) ?_
    refine lv_dup hx hb dX12_readsOne_19 rfl ?_
    refine fg_RX12_299 hC hw 0 rfl rfl dX12_readsOne_20 ?_
    refine lv_iconst (v := 1) hx hb dX12_readsOne_23 (by decide) ?_
    refine lv_iload_n hx hb dX12_readsOne_24 rfl (lv_at hl 1 rfl) ?_
    refine lv_ishl hx hb dX12_readsOne_25 ?_
    refine lv_topi (fun x_208 ex_208 => ?_)
    obtain rfl : x_208 = 4 := ex_208.trans (by decide)
    refine lv_ior hx hb dX12_readsOne_26 ?_
    refine fs_RX12_299 hC hw 0 rfl rfl rfl (Nat.le_of_ble_eq_true rfl) dX12_readsOne_27 (fun H locs hw => ?_)
    have hw : kW γ A ((mWz γ z z2 z10 z11 z12 z13 z14 z15 z16 z17 z18 z19 z22 z23 z24 z25 z26 z27 z28 z29 z30 z31 z32 z33 z36 z37 z38 z39 z40 z41 z42 z43 z44 z45 z46 z47 z48 z55 z56 z59 z60 z61 n0 n1 n49 n50 n51 n52 n53 n54 n57 n58 n62 n63 g n ((rs.1), (rs.2.1), (rs.2.2.1), (rs.2.2.2.1), ((rs.2.2.2.2.1) ||| 4), (rs.2.2.2.2.2))) ++ (mWa γ z10 z11 z12 z13 z14 z15 z16 z17 z18 z19 z22 z23 a)) s H locs := hw
    refine lv_aload_n hx hb dX12_readsOne_30 rfl (lv_at hl 0 rfl) ?_
    refine k_V (wr := (mWa γ z10 z11 z12 z13 z14 z15 z16 z17 z18 z19 z22 z23 a)) 0 gw_1402 gw_1404 gp_54 gw_15 gw_1405 hd_X12_nextToken hC hw (c_mv γ l z z2 z10 z11 z12 z13 z14 z15 z16 z17 z18 z19 z22 z23 z24 z25 z26 z27 z28 z29 z30 z31 z32 z33 z36 z37 z38 z39 z40 z41 z42 z43 z44 z45 z46 z47 z48 z55 z56 z59 z60 z61 n0 n1 n49 n50 n51 n52 n53 n54 n57 n58 n62 n63 n g ((rs.1), (rs.2.1), (rs.2.2.1), (rs.2.2.2.1), ((rs.2.2.2.2.1) ||| 4), (rs.2.2.2.2.2)) hn) ⟨by decide, by decide⟩ ⟨by decide, by decide⟩ hl.1 rfl 0 rfl rfl rfl (Nat.le_of_ble_eq_true rfl) [0, 1] [2, 3, 4, 5, 6, 7, 8, 9, 10, 11, 12, 13] rfl rfl rfl rfl (by decide) dX12_readsOne_31 (fun r w1 H locs hq hw => ?_)
    obtain ⟨rfl, rfl⟩ := hq
    have hw : kW γ A ((mWa γ z10 z11 z12 z13 z14 z15 z16 z17 z18 z19 z22 z23 a) ++ (mWz γ z z2 z10 z11 z12 z13 z14 z15 z16 z17 z18 z19 z22 z23 z24 z25 z26 z27 z28 z29 z30 z31 z32 z33 z36 z37 z38 z39 z40 z41 z42 z43 z44 z45 z46 z47 z48 z55 z56 z59 z60 z61 n0 n1 n49 n50 n51 n52 n53 n54 n57 n58 n62 n63 g n (mv g n ((rs.1), (rs.2.1), (rs.2.2.1), (rs.2.2.2.1), ((rs.2.2.2.2.1) ||| 4), (rs.2.2.2.2.2))))) s H locs := hw
    refine W.eq (g2 := F0 m 34 ls []) rfl ?_
    refine lv_aload_n hx hb dX12_readsOne_34 rfl (lv_at hl 0 rfl) ?_
    refine lv_iload_n hx hb dX12_readsOne_35 rfl (lv_at hl 2 rfl) ?_
    refine lv_iload_n hx hb dX12_readsOne_36 rfl (lv_at hl 3 rfl) ?_
    refine k_V (wr := (mWa γ z10 z11 z12 z13 z14 z15 z16 z17 z18 z19 z22 z23 a)) 2 gw_1464 gw_1466 gp_64 gw_15 gw_1467 hd_X12_needsNumber hC hw (c_m_needsNumber γ l z z2 z10 z11 z12 z13 z14 z15 z16 z17 z18 z19 z22 z23 z24 z25 z26 z27 z28 z29 z30 z31 z32 z33 z36 z37 z38 z39 z40 z41 z42 z43 z44 z45 z46 z47 z48 z55 z56 z59 z60 z61 n0 n1 n49 n50 n51 n52 n53 n54 n57 n58 n62 n63 n g (mv g n ((rs.1), (rs.2.1), (rs.2.2.1), (rs.2.2.2.1), ((rs.2.2.2.2.1) ||| 4), (rs.2.2.2.2.2))) lo hi hn) ⟨by decide, by decide⟩ ⟨by decide, by decide⟩ hl.1 rfl 12 rfl rfl rfl (Nat.le_of_ble_eq_true rfl) [12, 13] [0, 1, 2, 3, 4, 5, 6, 7, 8, 9, 10, 11] rfl rfl rfl rfl (by decide) dX12_readsOne_37 (fun r w1 H locs hq hw => ?_)
    obtain ⟨rfl, rfl⟩ := hq
    have hw : kW γ A ((mWa γ z10 z11 z12 z13 z14 z15 z16 z17 z18 z19 z22 z23 a) ++ (mWz γ z z2 z10 z11 z12 z13 z14 z15 z16 z17 z18 z19 z22 z23 z24 z25 z26 z27 z28 z29 z30 z31 z32 z33 z36 z37 z38 z39 z40 z41 z42 z43 z44 z45 z46 z47 z48 z55 z56 z59 z60 z61 n0 n1 n49 n50 n51 n52 n53 n54 n57 n58 n62 n63 g n ((F_m_needsNumber g n (mv g n ((rs.1), (rs.2.1), (rs.2.2.1), (rs.2.2.2.1), ((rs.2.2.2.2.1) ||| 4), (rs.2.2.2.2.2))) lo hi).2))) s H locs := hw
    refine W.eq (g2 := F0 m 40 ls [.int ((F_m_needsNumber g n (mv g n ((rs.1), (rs.2.1), (rs.2.2.1), (rs.2.2.2.1), ((rs.2.2.2.2.1) ||| 4), (rs.2.2.2.2.2))) lo hi).1)]) rfl ?_
    refine lv_if_ne (tgt := 45) hx hb dX12_readsOne_40 (by decide) (fun c_209 => ?_) (fun c_209 => ?_)
    · refine lv_aload_n hx hb dX12_readsOne_45 rfl (lv_at hl 0 rfl) ?_
      refine fg_RX12_13 hC hw 12 rfl rfl dX12_readsOne_46 ?_
      refine lv_iconst (v := 5) hx hb dX12_readsOne_49 (by decide) ?_
      refine lv_iload_n hx hb dX12_readsOne_50 rfl (lv_at hl 1 rfl) ?_
      refine lv_iadd hx hb dX12_readsOne_51 ?_
      refine lv_topi (fun x_210 ex_210 => ?_)
      obtain rfl : x_210 = 7 := ex_210.trans (by decide)
      refine lv_aload_n hx hb dX12_readsOne_52 rfl (lv_at hl 0 rfl) ?_
      refine fg_RX12_266 hC hw 12 rfl rfl dX12_readsOne_53 ?_
      refine k_iast hC hw 0 rfl (k_in0 (by decide)) dX12_readsOne_56 (fun H locs hw => ?_)
      have hw : kW γ A ((mWa γ z10 z11 z12 z13 z14 z15 z16 z17 z18 z19 z22 z23 ((upd (a.1) 7 (((F_m_needsNumber g n (mv g n ((rs.1), (rs.2.1), (rs.2.2.1), (rs.2.2.2.1), ((rs.2.2.2.2.1) ||| 4), (rs.2.2.2.2.2))) lo hi).2).2.2.1)), (a.2.1), (a.2.2.1), (a.2.2.2.1), (a.2.2.2.2.1), (a.2.2.2.2.2.1), (a.2.2.2.2.2.2.1), (a.2.2.2.2.2.2.2.1), (a.2.2.2.2.2.2.2.2.1), (a.2.2.2.2.2.2.2.2.2.1), (a.2.2.2.2.2.2.2.2.2.2.1), (a.2.2.2.2.2.2.2.2.2.2.2))) ++ (mWz γ z z2 z10 z11 z12 z13 z14 z15 z16 z17 z18 z19 z22 z23 z24 z25 z26 z27 z28 z29 z30 z31 z32 z33 z36 z37 z38 z39 z40 z41 z42 z43 z44 z45 z46 z47 z48 z55 z56 z59 z60 z61 n0 n1 n49 n50 n51 n52 n53 n54 n57 n58 n62 n63 g n ((F_m_needsNumber g n (mv g n ((rs.1), (rs.2.1), (rs.2.2.1), (rs.2.2.2.1), ((rs.2.2.2.2.1) ||| 4), (rs.2.2.2.2.2))) lo hi).2))) s H locs := hw
      refine lv_aload_n hx hb dX12_readsOne_57 rfl (lv_at hl 0 rfl) ?_
      refine k_V (wr := (mWa γ z10 z11 z12 z13 z14 z15 z16 z17 z18 z19 z22 z23 ((upd (a.1) 7 (((F_m_needsNumber g n (mv g n ((rs.1), (rs.2.1), (rs.2.2.1), (rs.2.2.2.1), ((rs.2.2.2.2.1) ||| 4), (rs.2.2.2.2.2))) lo hi).2).2.2.1)), (a.2.1), (a.2.2.1), (a.2.2.2.1), (a.2.2.2.2.1), (a.2.2.2.2.2.1), (a.2.2.2.2.2.2.1), (a.2.2.2.2.2.2.2.1), (a.2.2.2.2.2.2.2.2.1), (a.2.2.2.2.2.2.2.2.2.1), (a.2.2.2.2.2.2.2.2.2.2.1), (a.2.2.2.2.2.2.2.2.2.2.2)))) 0 gw_1471 gw_1473 gp_65 gw_15 gw_1474 hd_X12_closes hC hw (c_m_closes γ l z z2 z10 z11 z12 z13 z14 z15 z16 z17 z18 z19 z22 z23 z24 z25 z26 z27 z28 z29 z30 z31 z32 z33 z36 z37 z38 z39 z40 z41 z42 z43 z44 z45 z46 z47 z48 z55 z56 z59 z60 z61 n0 n1 n49 n50 n51 n52 n53 n54 n57 n58 n62 n63 n g ((F_m_needsNumber g n (mv g n ((rs.1), (rs.2.1), (rs.2.2.1), (rs.2.2.2.1), ((rs.2.2.2.2.1) ||| 4), (rs.2.2.2.2.2))) lo hi).2) hn) ⟨by decide, by decide⟩ ⟨by decide, by decide⟩ hl.1 rfl 12 rfl rfl rfl (Nat.le_of_ble_eq_true rfl) [12, 13] [0, 1, 2, 3, 4, 5, 6, 7, 8, 9, 10, 11] rfl rfl rfl rfl (by decide) dX12_readsOne_58 (fun r w1 H locs hq hw => ?_)
      obtain ⟨rfl, rfl⟩ := hq
      have hw : kW γ A ((mWa γ z10 z11 z12 z13 z14 z15 z16 z17 z18 z19 z22 z23 ((upd (a.1) 7 (((F_m_needsNumber g n (mv g n ((rs.1), (rs.2.1), (rs.2.2.1), (rs.2.2.2.1), ((rs.2.2.2.2.1) ||| 4), (rs.2.2.2.2.2))) lo hi).2).2.2.1)), (a.2.1), (a.2.2.1), (a.2.2.2.1), (a.2.2.2.2.1), (a.2.2.2.2.2.1), (a.2.2.2.2.2.2.1), (a.2.2.2.2.2.2.2.1), (a.2.2.2.2.2.2.2.2.1), (a.2.2.2.2.2.2.2.2.2.1), (a.2.2.2.2.2.2.2.2.2.2.1), (a.2.2.2.2.2.2.2.2.2.2.2))) ++ (mWz γ z z2 z10 z11 z12 z13 z14 z15 z16 z17 z18 z19 z22 z23 z24 z25 z26 z27 z28 z29 z30 z31 z32 z33 z36 z37 z38 z39 z40 z41 z42 z43 z44 z45 z46 z47 z48 z55 z56 z59 z60 z61 n0 n1 n49 n50 n51 n52 n53 n54 n57 n58 n62 n63 g n ((F_m_closes g n ((F_m_needsNumber g n (mv g n ((rs.1), (rs.2.1), (rs.2.2.1), (rs.2.2.2.1), ((rs.2.2.2.2.1) ||| 4), (rs.2.2.2.2.2))) lo hi).2)).2))) s H locs := hw
      refine W.eq (g2 := F0 m 61 ls [.int ((F_m_closes g n ((F_m_needsNumber g n (mv g n ((rs.1), (rs.2.1), (rs.2.2.1), (rs.2.2.2.1), ((rs.2.2.2.2.1) ||| 4), (rs.2.2.2.2.2))) lo hi).2)).1)]) rfl ?_
      have hE : (F_m_readsOne2 g n rs a lo hi) = (((F_m_closes g n ((F_m_needsNumber g n (mv g n ((rs.1), (rs.2.1), (rs.2.2.1), (rs.2.2.2.1), ((rs.2.2.2.2.1) ||| 4), (rs.2.2.2.2.2))) lo hi).2)).1), ((F_m_closes g n ((F_m_needsNumber g n (mv g n ((rs.1), (rs.2.1), (rs.2.2.1), (rs.2.2.2.1), ((rs.2.2.2.2.1) ||| 4), (rs.2.2.2.2.2))) lo hi).2)).2), ((upd (a.1) 7 (((F_m_needsNumber g n (mv g n ((rs.1), (rs.2.1), (rs.2.2.1), (rs.2.2.2.1), ((rs.2.2.2.2.1) ||| 4), (rs.2.2.2.2.2))) lo hi).2).2.2.1)), (a.2.1), (a.2.2.1), (a.2.2.2.1), (a.2.2.2.2.1), (a.2.2.2.2.2.1), (a.2.2.2.2.2.2.1), (a.2.2.2.2.2.2.2.1), (a.2.2.2.2.2.2.2.2.1), (a.2.2.2.2.2.2.2.2.2.1), (a.2.2.2.2.2.2.2.2.2.2.1), (a.2.2.2.2.2.2.2.2.2.2.2))) := by unfold F_m_readsOne2; rw [if_neg c_207, if_neg c_209]
      have hw : kW γ A ((mWa γ z10 z11 z12 z13 z14 z15 z16 z17 z18 z19 z22 z23 ((F_m_readsOne2 g n rs a lo hi).2.2)) ++ (mWz γ z z2 z10 z11 z12 z13 z14 z15 z16 z17 z18 z19 z22 z23 z24 z25 z26 z27 z28 z29 z30 z31 z32 z33 z36 z37 z38 z39 z40 z41 z42 z43 z44 z45 z46 z47 z48 z55 z56 z59 z60 z61 n0 n1 n49 n50 n51 n52 n53 n54 n57 n58 n62 n63 g n ((F_m_readsOne2 g n rs a lo hi).2.1))) s H locs := by first | (rw [hE]; exact hw) | exact hw
      exact k_zret hC hr hlocks (zb b_closes) hw [12, 13, 0, 1, 2, 3, 4, 5, 6, 7, 8, 9, 10, 11] rfl rfl ⟨by rw [hE], rfl⟩ (by decide) (by decide) dX12_readsOne_61
    · refine lv_iconst (v := 0) hx hb dX12_readsOne_43 (by decide) ?_
      have hE : (F_m_readsOne2 g n rs a lo hi) = (0, ((F_m_needsNumber g n (mv g n ((rs.1), (rs.2.1), (rs.2.2.1), (rs.2.2.2.1), ((rs.2.2.2.2.1) ||| 4), (rs.2.2.2.2.2))) lo hi).2), a) := by unfold F_m_readsOne2; rw [if_neg c_207, if_pos c_209]
      have hw : kW γ A ((mWa γ z10 z11 z12 z13 z14 z15 z16 z17 z18 z19 z22 z23 ((F_m_readsOne2 g n rs a lo hi).2.2)) ++ (mWz γ z z2 z10 z11 z12 z13 z14 z15 z16 z17 z18 z19 z22 z23 z24 z25 z26 z27 z28 z29 z30 z31 z32 z33 z36 z37 z38 z39 z40 z41 z42 z43 z44 z45 z46 z47 z48 z55 z56 z59 z60 z61 n0 n1 n49 n50 n51 n52 n53 n54 n57 n58 n62 n63 g n ((F_m_readsOne2 g n rs a lo hi).2.1))) s H locs := by first | (rw [hE]; exact hw) | exact hw
      exact k_zret hC hr hlocks rfl hw [12, 13, 0, 1, 2, 3, 4, 5, 6, 7, 8, 9, 10, 11] rfl rfl ⟨by rw [hE], rfl⟩ (by decide) (by decide) dX12_readsOne_44
  · refine lv_aload_n hx hb dX12_readsOne_12 rfl (lv_at hl 0 rfl) ?_
    refine lv_iconst (v := 3) hx hb dX12_readsOne_13 (by decide) ?_
    refine k_V (wr := (mWa γ z10 z11 z12 z13 z14 z15 z16 z17 z18 z19 z22 z23 a)) 1 gw_1421 gw_1423 gp_58 gw_15 gw_1424 hd_X12_fails hC hw (c_m_fails γ l z z2 z10 z11 z12 z13 z14 z15 z16 z17 z18 z19 z22 z23 z24 z25 z26 z27 z28 z29 z30 z31 z32 z33 z36 z37 z38 z39 z40 z41 z42 z43 z44 z45 z46 z47 z48 z55 z56 z59 z60 z61 n0 n1 n49 n50 n51 n52 n53 n54 n57 n58 n62 n63 n g rs 3 hn) ⟨by decide, by decide⟩ ⟨by decide, by decide⟩ hl.1 rfl 0 rfl rfl rfl (Nat.le_of_ble_eq_true rfl) [0, 1] [2, 3, 4, 5, 6, 7, 8, 9, 10, 11, 12, 13] rfl rfl rfl rfl (by decide) dX12_readsOne_14 (fun r w1 H locs hq hw => ?_)
    obtain ⟨rfl, rfl⟩ := hq
    have hw : kW γ A ((mWa γ z10 z11 z12 z13 z14 z15 z16 z17 z18 z19 z22 z23 a) ++ (mWz γ z z2 z10 z11 z12 z13 z14 z15 z16 z17 z18 z19 z22 z23 z24 z25 z26 z27 z28 z29 z30 z31 z32 z33 z36 z37 z38 z39 z40 z41 z42 z43 z44 z45 z46 z47 z48 z55 z56 z59 z60 z61 n0 n1 n49 n50 n51 n52 n53 n54 n57 n58 n62 n63 g n (F_m_fails g n rs 3))) s H locs := hw
    refine W.eq (g2 := F0 m 17 ls [.int 0]) rfl ?_
    have hE : (F_m_readsOne2 g n rs a lo hi) = (0, (F_m_fails g n rs 3), a) := by unfold F_m_readsOne2; rw [if_pos c_207]
    have hw : kW γ A ((mWa γ z10 z11 z12 z13 z14 z15 z16 z17 z18 z19 z22 z23 ((F_m_readsOne2 g n rs a lo hi).2.2)) ++ (mWz γ z z2 z10 z11 z12 z13 z14 z15 z16 z17 z18 z19 z22 z23 z24 z25 z26 z27 z28 z29 z30 z31 z32 z33 z36 z37 z38 z39 z40 z41 z42 z43 z44 z45 z46 z47 z48 z55 z56 z59 z60 z61 n0 n1 n49 n50 n51 n52 n53 n54 n57 n58 n62 n63 g n ((F_m_readsOne2 g n rs a lo hi).2.1))) s H locs := by first | (rw [hE]; exact hw) | exact hw
    exact k_zret hC hr hlocks rfl hw [12, 13, 0, 1, 2, 3, 4, 5, 6, 7, 8, 9, 10, 11] rfl rfl ⟨by rw [hE], rfl⟩ (by decide) (by decide) dX12_readsOne_17

def F_m_readsOne3 (g : Nat → Int32) (n : Nat) (rs : mRS) (a : mAS) (lo : Int32) (hi : Int32) : Int32 × mRS × mAS :=
  if (((rs.2.2.2.2.1) >>> (3 &&& 31)) &&& 1) = 1 then (0, (F_m_fails g n rs 3), a) else (if ((F_m_needsNumber g n (mv g n ((rs.1), (rs.2.1), (rs.2.2.1), (rs.2.2.2.1), ((rs.2.2.2.2.1) ||| 8), (rs.2.2.2.2.2))) lo hi).1) = 0 then (0, ((F_m_needsNumber g n (mv g n ((rs.1), (rs.2.1), (rs.2.2.1), (rs.2.2.2.1), ((rs.2.2.2.2.1) ||| 8), (rs.2.2.2.2.2))) lo hi).2), a) else (((F_m_closes g n ((F_m_needsNumber g n (mv g n ((rs.1), (rs.2.1), (rs.2.2.1), (rs.2.2.2.1), ((rs.2.2.2.2.1) ||| 8), (rs.2.2.2.2.2))) lo hi).2)).1), ((F_m_closes g n ((F_m_needsNumber g n (mv g n ((rs.1), (rs.2.1), (rs.2.2.1), (rs.2.2.2.1), ((rs.2.2.2.2.1) ||| 8), (rs.2.2.2.2.2))) lo hi).2)).2), ((upd (a.1) 8 (((F_m_needsNumber g n (mv g n ((rs.1), (rs.2.1), (rs.2.2.1), (rs.2.2.2.1), ((rs.2.2.2.2.1) ||| 8), (rs.2.2.2.2.2))) lo hi).2).2.2.1)), (a.2.1), (a.2.2.1), (a.2.2.2.1), (a.2.2.2.2.1), (a.2.2.2.2.2.1), (a.2.2.2.2.2.2.1), (a.2.2.2.2.2.2.2.1), (a.2.2.2.2.2.2.2.2.1), (a.2.2.2.2.2.2.2.2.2.1), (a.2.2.2.2.2.2.2.2.2.2.1), (a.2.2.2.2.2.2.2.2.2.2.2))))
set_option maxHeartbeats 4000000 in
set_option maxRecDepth 100000 in
theorem c_m_readsOne3 (γ : kΓ) (l : Launch) (z : Nat) (z2 : Nat) (z10 : Nat) (z11 : Nat) (z12 : Nat) (z13 : Nat) (z14 : Nat) (z15 : Nat) (z16 : Nat) (z17 : Nat) (z18 : Nat) (z19 : Nat) (z22 : Nat) (z23 : Nat) (z24 : Nat) (z25 : Nat) (z26 : Nat) (z27 : Nat) (z28 : Nat) (z29 : Nat) (z30 : Nat) (z31 : Nat) (z32 : Nat) (z33 : Nat) (z36 : Nat) (z37 : Nat) (z38 : Nat) (z39 : Nat) (z40 : Nat) (z41 : Nat) (z42 : Nat) (z43 : Nat) (z44 : Nat) (z45 : Nat) (z46 : Nat) (z47 : Nat) (z48 : Nat) (z55 : Nat) (z56 : Nat) (z59 : Nat) (z60 : Nat) (z61 : Nat) (n0 : Int32) (n1 : Int32) (n49 : Int32) (n50 : Int32) (n51 : Int32) (n52 : Int32) (n53 : Int32) (n54 : Int32) (n57 : Int32) (n58 : Int32) (n62 : Int32) (n63 : Int64) (n : Nat) (g : Nat → Int32) (rs : mRS) (a : mAS) (lo : Int32) (hi : Int32) (hn : n ≤ 1000) : kM γ l yX12_readsOne cX12_readsOne 4 ((some .boolean)) ({ frames := 3, cells := 0, slots := 0, locals := 83 } : Room) [.ref z, .int 3, .int lo, .int hi] ((mWz γ z z2 z10 z11 z12 z13 z14 z15 z16 z17 z18 z19 z22 z23 z24 z25 z26 z27 z28 z29 z30 z31 z32 z33 z36 z37 z38 z39 z40 z41 z42 z43 z44 z45 z46 z47 z48 z55 z56 z59 z60 z61 n0 n1 n49 n50 n51 n52 n53 n54 n57 n58 n62 n63 g n rs) ++ (mWa γ z10 z11 z12 z13 z14 z15 z16 z17 z18 z19 z22 z23 a)) (fun r w1 => r = some (.int ((F_m_readsOne3 g n rs a lo hi).1)) ∧ w1 = ((mWz γ z z2 z10 z11 z12 z13 z14 z15 z16 z17 z18 z19 z22 z23 z24 z25 z26 z27 z28 z29 z30 z31 z32 z33 z36 z37 z38 z39 z40 z41 z42 z43 z44 z45 z46 z47 z48 z55 z56 z59 z60 z61 n0 n1 n49 n50 n51 n52 n53 n54 n57 n58 n62 n63 g n ((F_m_readsOne3 g n rs a lo hi).2.1)) ++ (mWa γ z10 z11 z12 z13 z14 z15 z16 z17 z18 z19 z22 z23 ((F_m_readsOne3 g n rs a lo hi).2.2)))) := by
  refine k_ofW (by decide) (Nat.le_of_ble_eq_true rfl) ?_
  intro p9 e s m below meth c A ls hC hr hlocks hname hw hl
  have hx := hC.1
  have hb := hC.2.1
  have hl : lv_has ls 4 [(0, .ref z), (1, .int 3), (2, .int lo), (3, .int hi)] := hl
  refine lv_aload_n hx hb dX12_readsOne_0 rfl (lv_at hl 0 rfl) ?_
  refine fg_RX12_299 hC hw 0 rfl rfl dX12_readsOne_1 ?_
  refine lv_iload_n hx hb dX12_readsOne_4 rfl (lv_at hl 1 rfl) ?_
  refine lv_ishr hx hb dX12_readsOne_5 ?_
  refine lv_iconst (v := 1) hx hb dX12_readsOne_6 (by decide) ?_
  refine lv_iand hx hb dX12_readsOne_7 ?_
  refine lv_iconst (v := 1) hx hb dX12_readsOne_8 (by decide) ?_
  refine lv_icmp_ne (tgt := 18) hx hb dX12_readsOne_9 (by decide) (fun c_215 => ?_) (fun c_215 => ?_)
  · refine lv_aload_n hx hb dX12_readsOne_18 rfl (lv_at hl 0 rfl) ?_
    refine lv_dup hx hb dX12_readsOne_19 rfl ?_
    refine fg_RX12_299 hC hw 0 rfl rfl dX12_readsOne_20 ?_
    refine lv_iconst (v := 1) hx hb dX12_readsOne_23 (by decide) ?_
    refine lv_iload_n hx hb dX12_readsOne_24 rfl (lv_at hl 1 rfl) ?_
    refine lv_ishl hx hb dX12_readsOne_25 ?_
    refine lv_topi (fun x_216 ex_216 => ?_)
    obtain rfl : x_216 = 8 := ex_216.trans (by decide)
    refine lv_ior hx hb dX12_readsOne_26 ?_
    refine fs_RX12_299 hC hw 0 rfl rfl rfl (Nat.le_of_ble_eq_true rfl) dX12_readsOne_27 (fun H locs hw => ?_)
    have hw : kW γ A ((mWz γ z z2 z10 z11 z12 z13 z14 z15 z16 z17 z18 z19 z22 z23 z24 z25 z26 z27 z28 z29 z30 z31 z32 z33 z36 z37 z38 z39 z40 z41 z42 z43 z44 z45 z46 z47 z48 z55 z56 z59 z60 z61 n0 n1 n49 n50 n51 n52 n53 n54 n57 n58 n62 n63 g n ((rs.1), (rs.2.1), (rs.2.2.1), (rs.2.2.2.1), ((rs.2.2.2.2.1) ||| 8), (rs.2.2.2.2.2))) ++ (mWa γ z10 z11 z12 z13 z14 z15 z16 z17 z18 z19 z22 z23 a)) s H locs := hw
    refine lv_aload_n hx hb dX12_readsOne_30 rfl (lv_at hl 0 rfl) ?_
    refine k_V (wr := (mWa γ z10 z11 z12 z13 z14 z15 z16 z17 z18 z19 z22 z23 a)) 0 gw_1402 gw_1404 gp_54 gw_15 gw_1405 hd_X12_nextToken hC hw (c_mv γ l z z2 z10 z11 z12 z13 z14 z15 z16 z17 z18 z19 z22 z23 z24 z25 z26 z27 z28 z29 z30 z31 z32 z33 z36 z37 z38 z39 z40 z41 z42 z43 z44 z45 z46 z47 z48 z55 z56 z59 z60 z61 n0 n1 n49 n50 n51 n52 n53 n54 n57 n58 n62 n63 n g ((rs.1), (rs.2.1), (rs.2.2.1), (rs.2.2.2.1), ((rs.2.2.2.2.1) ||| 8), (rs.2.2.2.2.2)) hn) ⟨by decide, by decide⟩ ⟨by decide, by decide⟩ hl.1 rfl 0 rfl rfl rfl (Nat.le_of_ble_eq_true rfl) [0, 1] [2, 3, 4, 5, 6, 7, 8, 9, 10, 11, 12, 13] rfl rfl rfl rfl (by decide) dX12_readsOne_31 (fun r w1 H locs hq hw => ?_)
    obtain ⟨rfl, rfl⟩ := hq
    have hw : kW γ A ((mWa γ z10 z11 z12 z13 z14 z15 z16 z17 z18 z19 z22 z23 a) ++ (mWz γ z z2 z10 z11 z12 z13 z14 z15 z16 z17 z18 z19 z22 z23 z24 z25 z26 z27 z28 z29 z30 z31 z32 z33 z36 z37 z38 z39 z40 z41 z42 z43 z44 z45 z46 z47 z48 z55 z56 z59 z60 z61 n0 n1 n49 n50 n51 n52 n53 n54 n57 n58 n62 n63 g n (mv g n ((rs.1), (rs.2.1), (rs.2.2.1), (rs.2.2.2.1), ((rs.2.2.2.2.1) ||| 8), (rs.2.2.2.2.2))))) s H locs := hw
    refine W.eq (g2 := F0 m 34 ls []) rfl ?_
    refine lv_aload_n hx hb dX12_readsOne_34 rfl (lv_at hl 0 rfl) ?_
    refine lv_iload_n hx hb dX12_readsOne_35 rfl (lv_at hl 2 rfl) ?_
    refine lv_iload_n hx hb dX12_readsOne_36 rfl (lv_at hl 3 rfl) ?_
    refine k_V (wr := (mWa γ z10 z11 z12 z13 z14 z15 z16 z17 z18 z19 z22 z23 a)) 2 gw_1464 gw_1466 gp_64 gw_15 gw_1467 hd_X12_needsNumber hC hw (c_m_needsNumber γ l z z2 z10 z11 z12 z13 z14 z15 z16 z17 z18 z19 z22 z23 z24 z25 z26 z27 z28 z29 z30 z31 z32 z33 z36 z37 z38 z39 z40 z41 z42 z43 z44 z45 z46 z47 z48 z55 z56 z59 z60 z61 n0 n1 n49 n50 n51 n52 n53 n54 n57 n58 n62 n63 n g (mv g n ((rs.1), (rs.2.1), (rs.2.2.1), (rs.2.2.2.1), ((rs.2.2.2.2.1) ||| 8), (rs.2.2.2.2.2))) lo hi hn) ⟨by decide, by decide⟩ ⟨by decide, by decide⟩ hl.1 rfl 12 rfl rfl rfl (Nat.le_of_ble_eq_true rfl) [12, 13] [0, 1, 2, 3, 4, 5, 6, 7, 8, 9, 10, 11] rfl rfl rfl rfl (by decide) dX12_readsOne_37 (fun r w1 H locs hq hw => ?_)
    obtain ⟨rfl, rfl⟩ := hq
    have hw : kW γ A ((mWa γ z10 z11 z12 z13 z14 z15 z16 z17 z18 z19 z22 z23 a) ++ (mWz γ z z2 z10 z11 z12 z13 z14 z15 z16 z17 z18 z19 z22 z23 z24 z25 z26 z27 z28 z29 z30 z31 z32 z33 z36 z37 z38 z39 z40 z41 z42 z43 z44 z45 z46 z47 z48 z55 z56 z59 z60 z61 n0 n1 n49 n50 n51 n52 n53 n54 n57 n58 n62 n63 g n ((F_m_needsNumber g n (mv g n ((rs.1), (rs.2.1), (rs.2.2.1), (rs.2.2.2.1), ((rs.2.2.2.2.1) ||| 8), (rs.2.2.2.2.2))) lo hi).2))) s H locs := hw
    refine W.eq (g2 := F0 m 40 ls [.int ((F_m_needsNumber g n (mv g n ((rs.1), (rs.2.1), (rs.2.2.1), (rs.2.2.2.1), ((rs.2.2.2.2.1) ||| 8), (rs.2.2.2.2.2))) lo hi).1)]) rfl ?_
    refine lv_if_ne (tgt := 45) hx hb dX12_readsOne_40 (by decide) (fun c_217 => ?_) (fun c_217 => ?_)
    · refine lv_aload_n hx hb dX12_readsOne_45 rfl (lv_at hl 0 rfl) ?_
      refine fg_RX12_13 hC hw 12 rfl rfl dX12_readsOne_46 ?_
      refine lv_iconst (v := 5) hx hb dX12_readsOne_49 (by decide) ?_
      refine lv_iload_n hx hb dX12_readsOne_50 rfl (lv_at hl 1 rfl) ?_
      refine lv_iadd hx hb dX12_readsOne_51 ?_
      refine lv_topi (fun x_218 ex_218 => ?_)
      obtain rfl : x_218 = 8 := ex_218.trans (by decide)
      refine lv_aload_n hx hb dX12_readsOne_52 rfl (lv_at hl 0 rfl) ?_
      refine fg_RX12_266 hC hw 12 rfl rfl dX12_readsOne_53 ?_
      refine k_iast hC hw 0 rfl (k_in0 (by decide)) dX12_readsOne_56 (fun H locs hw => ?_)
      have hw : kW γ A ((mWa γ z10 z11 z12 z13 z14 z15 z16 z17 z18 z19 z22 z23 ((upd (a.1) 8 (((F_m_needsNumber g n (mv g n ((rs.1), (rs.2.1), (rs.2.2.1), (rs.2.2.2.1), ((rs.2.2.2.2.1) ||| 8), (rs.2.2.2.2.2))) lo hi).2).2.2.1)), (a.2.1), (a.2.2.1), (a.2.2.2.1), (a.2.2.2.2.1), (a.2.2.2.2.2.1), (a.2.2.2.2.2.2.1), (a.2.2.2.2.2.2.2.1), (a.2.2.2.2.2.2.2.2.1), (a.2.2.2.2.2.2.2.2.2.1), (a.2.2.2.2.2.2.2.2.2.2.1), (a.2.2.2.2.2.2.2.2.2.2.2))) ++ (mWz γ z z2 z10 z11 z12 z13 z14 z15 z16 z17 z18 z19 z22 z23 z24 z25 z26 z27 z28 z29 z30 z31 z32 z33 z36 z37 z38 z39 z40 z41 z42 z43 z44 z45 z46 z47 z48 z55 z56 z59 z60 z61 n0 n1 n49 n50 n51 n52 n53 n54 n57 n58 n62 n63 g n ((F_m_needsNumber g n (mv g n ((rs.1), (rs.2.1), (rs.2.2.1), (rs.2.2.2.1), ((rs.2.2.2.2.1) ||| 8), (rs.2.2.2.2.2))) lo hi).2))) s H locs := hw
      refine lv_aload_n hx hb dX12_readsOne_57 rfl (lv_at hl 0 rfl) ?_
      refine k_V (wr := (mWa γ z10 z11 z12 z13 z14 z15 z16 z17 z18 z19 z22 z23 ((upd (a.1) 8 (((F_m_needsNumber g n (mv g n ((rs.1), (rs.2.1), (rs.2.2.1), (rs.2.2.2.1), ((rs.2.2.2.2.1) ||| 8), (rs.2.2.2.2.2))) lo hi).2).2.2.1)), (a.2.1), (a.2.2.1), (a.2.2.2.1), (a.2.2.2.2.1), (a.2.2.2.2.2.1), (a.2.2.2.2.2.2.1), (a.2.2.2.2.2.2.2.1), (a.2.2.2.2.2.2.2.2.1), (a.2.2.2.2.2.2.2.2.2.1), (a.2.2.2.2.2.2.2.2.2.2.1), (a.2.2.2.2.2.2.2.2.2.2.2)))) 0 gw_1471 gw_1473 gp_65 gw_15 gw_1474 hd_X12_closes hC hw (c_m_closes γ l z z2 z10 z11 z12 z13 z14 z15 z16 z17 z18 z19 z22 z23 z24 z25 z26 z27 z28 z29 z30 z31 z32 z33 z36 z37 z38 z39 z40 z41 z42 z43 z44 z45 z46 z47 z48 z55 z56 z59 z60 z61 n0 n1 n49 n50 n51 n52 n53 n54 n57 n58 n62 n63 n g ((F_m_needsNumber g n (mv g n ((rs.1), (rs.2.1), (rs.2.2.1), (rs.2.2.2.1), ((rs.2.2.2.2.1) ||| 8), (rs.2.2.2.2.2))) lo hi).2) hn) ⟨by decide, by decide⟩ ⟨by decide, by decide⟩ hl.1 rfl 12 rfl rfl rfl (Nat.le_of_ble_eq_true rfl) [12, 13] [0, 1, 2, 3, 4, 5, 6, 7, 8, 9, 10, 11] rfl rfl rfl rfl (by decide) dX12_readsOne_58 (fun r w1 H locs hq hw => ?_)
      obtain ⟨rfl, rfl⟩ := hq
      have hw : kW γ A ((mWa γ z10 z11 z12 z13 z14 z15 z16 z17 z18 z19 z22 z23 ((upd (a.1) 8 (((F_m_needsNumber g n (mv g n ((rs.1), (rs.2.1), (rs.2.2.1), (rs.2.2.2.1), ((rs.2.2.2.2.1) ||| 8), (rs.2.2.2.2.2))) lo hi).2).2.2.1)), (a.2.1), (a.2.2.1), (a.2.2.2.1), (a.2.2.2.2.1), (a.2.2.2.2.2.1), (a.2.2.2.2.2.2.1), (a.2.2.2.2.2.2.2.1), (a.2.2.2.2.2.2.2.2.1), (a.2.2.2.2.2.2.2.2.2.1), (a.2.2.2.2.2.2.2.2.2.2.1), (a.2.2.2.2.2.2.2.2.2.2.2))) ++ (mWz γ z z2 z10 z11 z12 z13 z14 z15 z16 z17 z18 z19 z22 z23 z24 z25 z26 z27 z28 z29 z30 z31 z32 z33 z36 z37 z38 z39 z40 z41 z42 z43 z44 z45 z46 z47 z48 z55 z56 z59 z60 z61 n0 n1 n49 n50 n51 n52 n53 n54 n57 n58 n62 n63 g n ((F_m_closes g n ((F_m_needsNumber g n (mv g n ((rs.1), (rs.2.1), (rs.2.2.1), (rs.2.2.2.1), ((rs.2.2.2.2.1) ||| 8), (rs.2.2.2.2.2))) lo hi).2)).2))) s H locs := hw
      refine W.eq (g2 := F0 m 61 ls [.int ((F_m_closes g n ((F_m_needsNumber g n (mv g n ((rs.1), (rs.2.1), (rs.2.2.1), (rs.2.2.2.1), ((rs.2.2.2.2.1) ||| 8), (rs.2.2.2.2.2))) lo hi).2)).1)]) rfl ?_
      have hE : (F_m_readsOne3 g n rs a lo hi) = (((F_m_closes g n ((F_m_needsNumber g n (mv g n ((rs.1), (rs.2.1), (rs.2.2.1), (rs.2.2.2.1), ((rs.2.2.2.2.1) ||| 8), (rs.2.2.2.2.2))) lo hi).2)).1), ((F_m_closes g n ((F_m_needsNumber g n (mv g n ((rs.1), (rs.2.1), (rs.2.2.1), (rs.2.2.2.1), ((rs.2.2.2.2.1) ||| 8), (rs.2.2.2.2.2))) lo hi).2)).2), ((upd (a.1) 8 (((F_m_needsNumber g n (mv g n ((rs.1), (rs.2.1), (rs.2.2.1), (rs.2.2.2.1), ((rs.2.2.2.2.1) ||| 8), (rs.2.2.2.2.2))) lo hi).2).2.2.1)), (a.2.1), (a.2.2.1), (a.2.2.2.1), (a.2.2.2.2.1), (a.2.2.2.2.2.1), (a.2.2.2.2.2.2.1), (a.2.2.2.2.2.2.2.1), (a.2.2.2.2.2.2.2.2.1), (a.2.2.2.2.2.2.2.2.2.1), (a.2.2.2.2.2.2.2.2.2.2.1), (a.2.2.2.2.2.2.2.2.2.2.2))) := by unfold F_m_readsOne3; rw [if_neg c_215, if_neg c_217]
      have hw : kW γ A ((mWa γ z10 z11 z12 z13 z14 z15 z16 z17 z18 z19 z22 z23 ((F_m_readsOne3 g n rs a lo hi).2.2)) ++ (mWz γ z z2 z10 z11 z12 z13 z14 z15 z16 z17 z18 z19 z22 z23 z24 z25 z26 z27 z28 z29 z30 z31 z32 z33 z36 z37 z38 z39 z40 z41 z42 z43 z44 z45 z46 z47 z48 z55 z56 z59 z60 z61 n0 n1 n49 n50 n51 n52 n53 n54 n57 n58 n62 n63 g n ((F_m_readsOne3 g n rs a lo hi).2.1))) s H locs := by first | (rw [hE]; exact hw) | exact hw
      exact k_zret hC hr hlocks (zb b_closes) hw [12, 13, 0, 1, 2, 3, 4, 5, 6, 7, 8, 9, 10, 11] rfl rfl ⟨by rw [hE], rfl⟩ (by decide) (by decide) dX12_readsOne_61
    · refine lv_iconst (v := 0) hx hb dX12_readsOne_43 (by decide) ?_
      have hE : (F_m_readsOne3 g n rs a lo hi) = (0, ((F_m_needsNumber g n (mv g n ((rs.1), (rs.2.1), (rs.2.2.1), (rs.2.2.2.1), ((rs.2.2.2.2.1) ||| 8), (rs.2.2.2.2.2))) lo hi).2), a) := by unfold F_m_readsOne3; rw [if_neg c_215, if_pos c_217]
      have hw : kW γ A ((mWa γ z10 z11 z12 z13 z14 z15 z16 z17 z18 z19 z22 z23 ((F_m_readsOne3 g n rs a lo hi).2.2)) ++ (mWz γ z z2 z10 z11 z12 z13 z14 z15 z16 z17 z18 z19 z22 z23 z24 z25 z26 z27 z28 z29 z30 z31 z32 z33 z36 z37 z38 z39 z40 z41 z42 z43 z44 z45 z46 z47 z48 z55 z56 z59 z60 z61 n0 n1 n49 n50 n51 n52 n53 n54 n57 n58 n62 n63 g n ((F_m_readsOne3 g n rs a lo hi).2.1))) s H locs := by first | (rw [hE]; exact hw) | exact hw
      exact k_zret hC hr hlocks rfl hw [12, 13, 0, 1, 2, 3, 4, 5, 6, 7, 8, 9, 10, 11] rfl rfl ⟨by rw [hE], rfl⟩ (by decide) (by decide) dX12_readsOne_44
  · refine lv_aload_n hx hb dX12_readsOne_12 rfl (lv_at hl 0 rfl) ?_
    refine lv_iconst (v := 3) hx hb dX12_readsOne_13 (by decide) ?_
    refine k_V (wr := (mWa γ z10 z11 z12 z13 z14 z15 z16 z17 z18 z19 z22 z23 a)) 1 gw_1421 gw_1423 gp_58 gw_15 gw_1424 hd_X12_fails hC hw (c_m_fails γ l z z2 z10 z11 z12 z13 z14 z15 z16 z17 z18 z19 z22 z23 z24 z25 z26 z27 z28 z29 z30 z31 z32 z33 z36 z37 z38 z39 z40 z41 z42 z43 z44 z45 z46 z47 z48 z55 z56 z59 z60 z61 n0 n1 n49 n50 n51 n52 n53 n54 n57 n58 n62 n63 n g rs 3 hn) ⟨by decide, by decide⟩ ⟨by decide, by decide⟩ hl.1 rfl 0 rfl rfl rfl (Nat.le_of_ble_eq_true rfl) [0, 1] [2, 3, 4, 5, 6, 7, 8, 9, 10, 11, 12, 13] rfl rfl rfl rfl (by decide) dX12_readsOne_14 (fun r w1 H locs hq hw => ?_)
    obtain ⟨rfl, rfl⟩ := hq
    have hw : kW γ A ((mWa γ z10 z11 z12 z13 z14 z15 z16 z17 z18 z19 z22 z23 a) ++ (mWz γ z z2 z10 z11 z12 z13 z14 z15 z16 z17 z18 z19 z22 z23 z24 z25 z26 z27 z28 z29 z30 z31 z32 z33 z36 z37 z38 z39 z40 z41 z42 z43 z44 z45 z46 z47 z48 z55 z56 z59 z60 z61 n0 n1 n49 n50 n51 n52 n53 n54 n57 n58 n62 n63 g n (F_m_fails g n rs 3))) s H locs := hw
    refine W.eq (g2 := F0 m 17 ls [.int 0]) rfl ?_
    have hE : (F_m_readsOne3 g n rs a lo hi) = (0, (F_m_fails g n rs 3), a) := by unfold F_m_readsOne3; rw [if_pos c_215]
    have hw : kW γ A ((mWa γ z10 z11 z12 z13 z14 z15 z16 z17 z18 z19 z22 z23 ((F_m_readsOne3 g n rs a lo hi).2.2)) ++ (mWz γ z z2 z10 z11 z12 z13 z14 z15 z16 z17 z18 z19 z22 z23 z24 z25 z26 z27 z28 z29 z30 z31 z32 z33 z36 z37 z38 z39 z40 z41 z42 z43 z44 z45 z46 z47 z48 z55 z56 z59 z60 z61 n0 n1 n49 n50 n51 n52 n53 n54 n57 n58 n62 n63 g n ((F_m_readsOne3 g n rs a lo hi).2.1))) s H locs := by first | (rw [hE]; exact hw) | exact hw
    exact k_zret hC hr hlocks rfl hw [12, 13, 0, 1, 2, 3, 4, 5, 6, 7, 8, 9, 10, 11] rfl rfl ⟨by rw [hE], rfl⟩ (by decide) (by decide) dX12_readsOne_17

def F_m_readsOne4 (g : Nat → Int32) (n : Nat) (rs : mRS) (a : mAS) (lo : Int32) (hi : Int32) : Int32 × mRS × mAS :=
  if (((rs.2.2.2.2.1) >>> (4 &&& 31)) &&& 1) = 1 then (0, (F_m_fails g n rs 3), a) else (if ((F_m_needsNumber g n (mv g n ((rs.1), (rs.2.1), (rs.2.2.1), (rs.2.2.2.1), ((rs.2.2.2.2.1) ||| 16), (rs.2.2.2.2.2))) lo hi).1) = 0 then (0, ((F_m_needsNumber g n (mv g n ((rs.1), (rs.2.1), (rs.2.2.1), (rs.2.2.2.1), ((rs.2.2.2.2.1) ||| 16), (rs.2.2.2.2.2))) lo hi).2), a) else (((F_m_closes g n ((F_m_needsNumber g n (mv g n ((rs.1), (rs.2.1), (rs.2.2.1), (rs.2.2.2.1), ((rs.2.2.2.2.1) ||| 16), (rs.2.2.2.2.2))) lo hi).2)).1), ((F_m_closes g n ((F_m_needsNumber g n (mv g n ((rs.1), (rs.2.1), (rs.2.2.1), (rs.2.2.2.1), ((rs.2.2.2.2.1) ||| 16), (rs.2.2.2.2.2))) lo hi).2)).2), ((upd (a.1) 9 (((F_m_needsNumber g n (mv g n ((rs.1), (rs.2.1), (rs.2.2.1), (rs.2.2.2.1), ((rs.2.2.2.2.1) ||| 16), (rs.2.2.2.2.2))) lo hi).2).2.2.1)), (a.2.1), (a.2.2.1), (a.2.2.2.1), (a.2.2.2.2.1), (a.2.2.2.2.2.1), (a.2.2.2.2.2.2.1), (a.2.2.2.2.2.2.2.1), (a.2.2.2.2.2.2.2.2.1), (a.2.2.2.2.2.2.2.2.2.1), (a.2.2.2.2.2.2.2.2.2.2.1), (a.2.2.2.2.2.2.2.2.2.2.2))))
set_option maxHeartbeats 4000000 in
set_option maxRecDepth 100000 in
theorem c_m_readsOne4 (γ : kΓ) (l : Launch) (z : Nat) (z2 : Nat) (z10 : Nat) (z11 : Nat) (z12 : Nat) (z13 : Nat) (z14 : Nat) (z15 : Nat) (z16 : Nat) (z17 : Nat) (z18 : Nat) (z19 : Nat) (z22 : Nat) (z23 : Nat) (z24 : Nat) (z25 : Nat) (z26 : Nat) (z27 : Nat) (z28 : Nat) (z29 : Nat) (z30 : Nat) (z31 : Nat) (z32 : Nat) (z33 : Nat) (z36 : Nat) (z37 : Nat) (z38 : Nat) (z39 : Nat) (z40 : Nat) (z41 : Nat) (z42 : Nat) (z43 : Nat) (z44 : Nat) (z45 : Nat) (z46 : Nat) (z47 : Nat) (z48 : Nat) (z55 : Nat) (z56 : Nat) (z59 : Nat) (z60 : Nat) (z61 : Nat) (n0 : Int32) (n1 : Int32) (n49 : Int32) (n50 : Int32) (n51 : Int32) (n52 : Int32) (n53 : Int32) (n54 : Int32) (n57 : Int32) (n58 : Int32) (n62 : Int32) (n63 : Int64) (n : Nat) (g : Nat → Int32) (rs : mRS) (a : mAS) (lo : Int32) (hi : Int32) (hn : n ≤ 1000) : kM γ l yX12_readsOne cX12_readsOne 4 ((some .boolean)) ({ frames := 3, cells := 0, slots := 0, locals := 83 } : Room) [.ref z, .int 4, .int lo, .int hi] ((mWz γ z z2 z10 z11 z12 z13 z14 z15 z16 z17 z18 z19 z22 z23 z24 z25 z26 z27 z28 z29 z30 z31 z32 z33 z36 z37 z38 z39 z40 z41 z42 z43 z44 z45 z46 z47 z48 z55 z56 z59 z60 z61 n0 n1 n49 n50 n51 n52 n53 n54 n57 n58 n62 n63 g n rs) ++ (mWa γ z10 z11 z12 z13 z14 z15 z16 z17 z18 z19 z22 z23 a)) (fun r w1 => r = some (.int ((F_m_readsOne4 g n rs a lo hi).1)) ∧ w1 = ((mWz γ z z2 z10 z11 z12 z13 z14 z15 z16 z17 z18 z19 z22 z23 z24 z25 z26 z27 z28 z29 z30 z31 z32 z33 z36 z37 z38 z39 z40 z41 z42 z43 z44 z45 z46 z47 z48 z55 z56 z59 z60 z61 n0 n1 n49 n50 n51 n52 n53 n54 n57 n58 n62 n63 g n ((F_m_readsOne4 g n rs a lo hi).2.1)) ++ (mWa γ z10 z11 z12 z13 z14 z15 z16 z17 z18 z19 z22 z23 ((F_m_readsOne4 g n rs a lo hi).2.2)))) := by
  refine k_ofW (by decide) (Nat.le_of_ble_eq_true rfl) ?_
  intro p9 e s m below meth c A ls hC hr hlocks hname hw hl
  have hx := hC.1
  have hb := hC.2.1
  have hl : lv_has ls 4 [(0, .ref z), (1, .int 4), (2, .int lo), (3, .int hi)] := hl
  refine lv_aload_n hx hb dX12_readsOne_0 rfl (lv_at hl 0 rfl) ?_
  refine fg_RX12_299 hC hw 0 rfl rfl dX12_readsOne_1 ?_
  refine lv_iload_n hx hb dX12_readsOne_4 rfl (lv_at hl 1 rfl) ?_
  refine lv_ishr hx hb dX12_readsOne_5 ?_
  refine lv_iconst (v := 1) hx hb dX12_readsOne_6 (by decide) ?_
  refine lv_iand hx hb dX12_readsOne_7 ?_
  refine lv_iconst (v := 1) hx hb dX12_readsOne_8 (by decide) ?_
  refine lv_icmp_ne (tgt := 18) hx hb dX12_readsOne_9 (by decide) (fun c_223 => ?_) (fun c_223 => ?_)
  · refine lv_aload_n hx hb dX12_readsOne_18 rfl (lv_at hl 0 rfl) ?_
    refine lv_dup hx hb dX12_readsOne_19 rfl ?_
    refine fg_RX12_299 hC hw 0 rfl rfl dX12_readsOne_20 ?_
    refine lv_iconst (v := 1) hx hb dX12_readsOne_23 (by decide) ?_
    refine lv_iload_n hx hb dX12_readsOne_24 rfl (lv_at hl 1 rfl) ?_
    refine lv_ishl hx hb dX12_readsOne_25 ?_
    refine lv_topi (fun x_224 ex_224 => ?_)
    obtain rfl : x_224 = 16 := ex_224.trans (by decide)
    refine lv_ior hx hb dX12_readsOne_26 ?_
    refine fs_RX12_299 hC hw 0 rfl rfl rfl (Nat.le_of_ble_eq_true rfl) dX12_readsOne_27 (fun H locs hw => ?_)
    have hw : kW γ A ((mWz γ z z2 z10 z11 z12 z13 z14 z15 z16 z17 z18 z19 z22 z23 z24 z25 z26 z27 z28 z29 z30 z31 z32 z33 z36 z37 z38 z39 z40 z41 z42 z43 z44 z45 z46 z47 z48 z55 z56 z59 z60 z61 n0 n1 n49 n50 n51 n52 n53 n54 n57 n58 n62 n63 g n ((rs.1), (rs.2.1), (rs.2.2.1), (rs.2.2.2.1), ((rs.2.2.2.2.1) ||| 16), (rs.2.2.2.2.2))) ++ (mWa γ z10 z11 z12 z13 z14 z15 z16 z17 z18 z19 z22 z23 a)) s H locs := hw
    refine lv_aload_n hx hb dX12_readsOne_30 rfl (lv_at hl 0 rfl) ?_
    refine k_V (wr := (mWa γ z10 z11 z12 z13 z14 z15 z16 z17 z18 z19 z22 z23 a)) 0 gw_1402 gw_1404 gp_54 gw_15 gw_1405 hd_X12_nextToken hC hw (c_mv γ l z z2 z10 z11 z12 z13 z14 z15 z16 z17 z18 z19 z22 z23 z24 z25 z26 z27 z28 z29 z30 z31 z32 z33 z36 z37 z38 z39 z40 z41 z42 z43 z44 z45 z46 z47 z48 z55 z56 z59 z60 z61 n0 n1 n49 n50 n51 n52 n53 n54 n57 n58 n62 n63 n g ((rs.1), (rs.2.1), (rs.2.2.1), (rs.2.2.2.1), ((rs.2.2.2.2.1) ||| 16), (rs.2.2.2.2.2)) hn) ⟨by decide, by decide⟩ ⟨by decide, by decide⟩ hl.1 rfl 0 rfl rfl rfl (Nat.le_of_ble_eq_true rfl) [0, 1] [2, 3, 4, 5, 6, 7, 8, 9, 10, 11, 12, 13] rfl rfl rfl rfl (by decide) dX12_readsOne_31 (fun r w1 H locs hq hw => ?_)
    obtain ⟨rfl, rfl⟩ := hq
    have hw : kW γ A ((mWa γ z10 z11 z12 z13 z14 z15 z16 z17 z18 z19 z22 z23 a) ++ (mWz γ z z2 z10 z11 z12 z13 z14 z15 z16 z17 z18 z19 z22 z23 z24 z25 z26 z27 z28 z29 z30 z31 z32 z33 z36 z37 z38 z39 z40 z41 z42 z43 z44 z45 z46 z47 z48 z55 z56 z59 z60 z61 n0 n1 n49 n50 n51 n52 n53 n54 n57 n58 n62 n63 g n (mv g n ((rs.1), (rs.2.1), (rs.2.2.1), (rs.2.2.2.1), ((rs.2.2.2.2.1) ||| 16), (rs.2.2.2.2.2))))) s H locs := hw
    refine W.eq (g2 := F0 m 34 ls []) rfl ?_
    refine lv_aload_n hx hb dX12_readsOne_34 rfl (lv_at hl 0 rfl) ?_
    refine lv_iload_n hx hb dX12_readsOne_35 rfl (lv_at hl 2 rfl) ?_
    refine lv_iload_n hx hb dX12_readsOne_36 rfl (lv_at hl 3 rfl) ?_
    refine k_V (wr := (mWa γ z10 z11 z12 z13 z14 z15 z16 z17 z18 z19 z22 z23 a)) 2 gw_1464 gw_1466 gp_64 gw_15 gw_1467 hd_X12_needsNumber hC hw (c_m_needsNumber γ l z z2 z10 z11 z12 z13 z14 z15 z16 z17 z18 z19 z22 z23 z24 z25 z26 z27 z28 z29 z30 z31 z32 z33 z36 z37 z38 z39 z40 z41 z42 z43 z44 z45 z46 z47 z48 z55 z56 z59 z60 z61 n0 n1 n49 n50 n51 n52 n53 n54 n57 n58 n62 n63 n g (mv g n ((rs.1), (rs.2.1), (rs.2.2.1), (rs.2.2.2.1), ((rs.2.2.2.2.1) ||| 16), (rs.2.2.2.2.2))) lo hi hn) ⟨by decide, by decide⟩ ⟨by decide, by decide⟩ hl.1 rfl 12 rfl rfl rfl (Nat.le_of_ble_eq_true rfl) [12, 13] [0, 1, 2, 3, 4, 5, 6, 7, 8, 9, 10, 11] rfl rfl rfl rfl (by decide) dX12_readsOne_37 (fun r w1 H locs hq hw => ?_)
    obtain ⟨rfl, rfl⟩ := hq
    have hw : kW γ A ((mWa γ z10 z11 z12 z13 z14 z15 z16 z17 z18 z19 z22 z23 a) ++ (mWz γ z z2 z10 z11 z12 z13 z14 z15 z16 z17 z18 z19 z22 z23 z24 z25 z26 z27 z28 z29 z30 z31 z32 z33 z36 z37 z38 z39 z40 z41 z42 z43 z44 z45 z46 z47 z48 z55 z56 z59 z60 z61 n0 n1 n49 n50 n51 n52 n53 n54 n57 n58 n62 n63 g n ((F_m_needsNumber g n (mv g n ((rs.1), (rs.2.1), (rs.2.2.1), (rs.2.2.2.1), ((rs.2.2.2.2.1) ||| 16), (rs.2.2.2.2.2))) lo hi).2))) s H locs := hw
    refine W.eq (g2 := F0 m 40 ls [.int ((F_m_needsNumber g n (mv g n ((rs.1), (rs.2.1), (rs.2.2.1), (rs.2.2.2.1), ((rs.2.2.2.2.1) ||| 16), (rs.2.2.2.2.2))) lo hi).1)]) rfl ?_
    refine lv_if_ne (tgt := 45) hx hb dX12_readsOne_40 (by decide) (fun c_225 => ?_) (fun c_225 => ?_)
    · refine lv_aload_n hx hb dX12_readsOne_45 rfl (lv_at hl 0 rfl) ?_
      refine fg_RX12_13 hC hw 12 rfl rfl dX12_readsOne_46 ?_
      refine lv_iconst (v := 5) hx hb dX12_readsOne_49 (by decide) ?_
      refine lv_iload_n hx hb dX12_readsOne_50 rfl (lv_at hl 1 rfl) ?_
      refine lv_iadd hx hb dX12_readsOne_51 ?_
      refine lv_topi (fun x_226 ex_226 => ?_)
      obtain rfl : x_226 = 9 := ex_226.trans (by decide)
      refine lv_aload_n hx hb dX12_readsOne_52 rfl (lv_at hl 0 rfl) ?_
      refine fg_RX12_266 hC hw 12 rfl rfl dX12_readsOne_53 ?_
      refine k_iast hC hw 0 rfl (k_in0 (by decide)) dX12_readsOne_56 (fun H locs hw => ?_)
      have hw : kW γ A ((mWa γ z10 z11 z12 z13 z14 z15 z16 z17 z18 z19 z22 z23 ((upd (a.1) 9 (((F_m_needsNumber g n (mv g n ((rs.1), (rs.2.1), (rs.2.2.1), (rs.2.2.2.1), ((rs.2.2.2.2.1) ||| 16), (rs.2.2.2.2.2))) lo hi).2).2.2.1)), (a.2.1), (a.2.2.1), (a.2.2.2.1), (a.2.2.2.2.1), (a.2.2.2.2.2.1), (a.2.2.2.2.2.2.1), (a.2.2.2.2.2.2.2.1), (a.2.2.2.2.2.2.2.2.1), (a.2.2.2.2.2.2.2.2.2.1), (a.2.2.2.2.2.2.2.2.2.2.1), (a.2.2.2.2.2.2.2.2.2.2.2))) ++ (mWz γ z z2 z10 z11 z12 z13 z14 z15 z16 z17 z18 z19 z22 z23 z24 z25 z26 z27 z28 z29 z30 z31 z32 z33 z36 z37 z38 z39 z40 z41 z42 z43 z44 z45 z46 z47 z48 z55 z56 z59 z60 z61 n0 n1 n49 n50 n51 n52 n53 n54 n57 n58 n62 n63 g n ((F_m_needsNumber g n (mv g n ((rs.1), (rs.2.1), (rs.2.2.1), (rs.2.2.2.1), ((rs.2.2.2.2.1) ||| 16), (rs.2.2.2.2.2))) lo hi).2))) s H locs := hw
      refine lv_aload_n hx hb dX12_readsOne_57 rfl (lv_at hl 0 rfl) ?_
      refine k_V (wr := (mWa γ z10 z11 z12 z13 z14 z15 z16 z17 z18 z19 z22 z23 ((upd (a.1) 9 (((F_m_needsNumber g n (mv g n ((rs.1), (rs.2.1), (rs.2.2.1), (rs.2.2.2.1), ((rs.2.2.2.2.1) ||| 16), (rs.2.2.2.2.2))) lo hi).2).2.2.1)), (a.2.1), (a.2.2.1), (a.2.2.2.1), (a.2.2.2.2.1), (a.2.2.2.2.2.1), (a.2.2.2.2.2.2.1), (a.2.2.2.2.2.2.2.1), (a.2.2.2.2.2.2.2.2.1), (a.2.2.2.2.2.2.2.2.2.1), (a.2.2.2.2.2.2.2.2.2.2.1), (a.2.2.2.2.2.2.2.2.2.2.2)))) 0 gw_1471 gw_1473 gp_65 gw_15 gw_1474 hd_X12_closes hC hw (c_m_closes γ l z z2 z10 z11 z12 z13 z14 z15 z16 z17 z18 z19 z22 z23 z24 z25 z26 z27 z28 z29 z30 z31 z32 z33 z36 z37 z38 z39 z40 z41 z42 z43 z44 z45 z46 z47 z48 z55 z56 z59 z60 z61 n0 n1 n49 n50 n51 n52 n53 n54 n57 n58 n62 n63 n g ((F_m_needsNumber g n (mv g n ((rs.1), (rs.2.1), (rs.2.2.1), (rs.2.2.2.1), ((rs.2.2.2.2.1) ||| 16), (rs.2.2.2.2.2))) lo hi).2) hn) ⟨by decide, by decide⟩ ⟨by decide, by decide⟩ hl.1 rfl 12 rfl rfl rfl (Nat.le_of_ble_eq_true rfl) [12, 13] [0, 1, 2, 3, 4, 5, 6, 7, 8, 9, 10, 11] rfl rfl rfl rfl (by decide) dX12_readsOne_58 (fun r w1 H locs hq hw => ?_)
      obtain ⟨rfl, rfl⟩ := hq
      have hw : kW γ A ((mWa γ z10 z11 z12 z13 z14 z15 z16 z17 z18 z19 z22 z23 ((upd (a.1) 9 (((F_m_needsNumber g n (mv g n ((rs.1), (rs.2.1), (rs.2.2.1), (rs.2.2.2.1), ((rs.2.2.2.2.1) ||| 16), (rs.2.2.2.2.2))) lo hi).2).2.2.1)), (a.2.1), (a.2.2.1), (a.2.2.2.1), (a.2.2.2.2.1), (a.2.2.2.2.2.1), (a.2.2.2.2.2.2.1), (a.2.2.2.2.2.2.2.1), (a.2.2.2.2.2.2.2.2.1), (a.2.2.2.2.2.2.2.2.2.1), (a.2.2.2.2.2.2.2.2.2.2.1), (a.2.2.2.2.2.2.2.2.2.2.2))) ++ (mWz γ z z2 z10 z11 z12 z13 z14 z15 z16 z17 z18 z19 z22 z23 z24 z25 z26 z27 z28 z29 z30 z31 z32 z33 z36 z37 z38 z39 z40 z41 z42 z43 z44 z45 z46 z47 z48 z55 z56 z59 z60 z61 n0 n1 n49 n50 n51 n52 n53 n54 n57 n58 n62 n63 g n ((F_m_closes g n ((F_m_needsNumber g n (mv g n ((rs.1), (rs.2.1), (rs.2.2.1), (rs.2.2.2.1), ((rs.2.2.2.2.1) ||| 16), (rs.2.2.2.2.2))) lo hi).2)).2))) s H locs := hw
      refine W.eq (g2 := F0 m 61 ls [.int ((F_m_closes g n ((F_m_needsNumber g n (mv g n ((rs.1), (rs.2.1), (rs.2.2.1), (rs.2.2.2.1), ((rs.2.2.2.2.1) ||| 16), (rs.2.2.2.2.2))) lo hi).2)).1)]) rfl ?_
      have hE : (F_m_readsOne4 g n rs a lo hi) = (((F_m_closes g n ((F_m_needsNumber g n (mv g n ((rs.1), (rs.2.1), (rs.2.2.1), (rs.2.2.2.1), ((rs.2.2.2.2.1) ||| 16), (rs.2.2.2.2.2))) lo hi).2)).1), ((F_m_closes g n ((F_m_needsNumber g n (mv g n ((rs.1), (rs.2.1), (rs.2.2.1), (rs.2.2.2.1), ((rs.2.2.2.2.1) ||| 16), (rs.2.2.2.2.2))) lo hi).2)).2), ((upd (a.1) 9 (((F_m_needsNumber g n (mv g n ((rs.1), (rs.2.1), (rs.2.2.1), (rs.2.2.2.1), ((rs.2.2.2.2.1) ||| 16), (rs.2.2.2.2.2))) lo hi).2).2.2.1)), (a.2.1), (a.2.2.1), (a.2.2.2.1), (a.2.2.2.2.1), (a.2.2.2.2.2.1), (a.2.2.2.2.2.2.1), (a.2.2.2.2.2.2.2.1), (a.2.2.2.2.2.2.2.2.1), (a.2.2.2.2.2.2.2.2.2.1), (a.2.2.2.2.2.2.2.2.2.2.1), (a.2.2.2.2.2.2.2.2.2.2.2))) := by unfold F_m_readsOne4; rw [if_neg c_223, if_neg c_225]
      have hw : kW γ A ((mWa γ z10 z11 z12 z13 z14 z15 z16 z17 z18 z19 z22 z23 ((F_m_readsOne4 g n rs a lo hi).2.2)) ++ (mWz γ z z2 z10 z11 z12 z13 z14 z15 z16 z17 z18 z19 z22 z23 z24 z25 z26 z27 z28 z29 z30 z31 z32 z33 z36 z37 z38 z39 z40 z41 z42 z43 z44 z45 z46 z47 z48 z55 z56 z59 z60 z61 n0 n1 n49 n50 n51 n52 n53 n54 n57 n58 n62 n63 g n ((F_m_readsOne4 g n rs a lo hi).2.1))) s H locs := by first | (rw [hE]; exact hw) | exact hw
      exact k_zret hC hr hlocks (zb b_closes) hw [12, 13, 0, 1, 2, 3, 4, 5, 6, 7, 8, 9, 10, 11] rfl rfl ⟨by rw [hE], rfl⟩ (by decide) (by decide) dX12_readsOne_61
    · refine lv_iconst (v := 0) hx hb dX12_readsOne_43 (by decide) ?_
      have hE : (F_m_readsOne4 g n rs a lo hi) = (0, ((F_m_needsNumber g n (mv g n ((rs.1), (rs.2.1), (rs.2.2.1), (rs.2.2.2.1), ((rs.2.2.2.2.1) ||| 16), (rs.2.2.2.2.2))) lo hi).2), a) := by unfold F_m_readsOne4; rw [if_neg c_223, if_pos c_225]
      have hw : kW γ A ((mWa γ z10 z11 z12 z13 z14 z15 z16 z17 z18 z19 z22 z23 ((F_m_readsOne4 g n rs a lo hi).2.2)) ++ (mWz γ z z2 z10 z11 z12 z13 z14 z15 z16 z17 z18 z19 z22 z23 z24 z25 z26 z27 z28 z29 z30 z31 z32 z33 z36 z37 z38 z39 z40 z41 z42 z43 z44 z45 z46 z47 z48 z55 z56 z59 z60 z61 n0 n1 n49 n50 n51 n52 n53 n54 n57 n58 n62 n63 g n ((F_m_readsOne4 g n rs a lo hi).2.1))) s H locs := by first | (rw [hE]; exact hw) | exact hw
      exact k_zret hC hr hlocks rfl hw [12, 13, 0, 1, 2, 3, 4, 5, 6, 7, 8, 9, 10, 11] rfl rfl ⟨by rw [hE], rfl⟩ (by decide) (by decide) dX12_readsOne_44
  · refine lv_aload_n hx hb dX12_readsOne_12 rfl (lv_at hl 0 rfl) ?_
    refine lv_iconst (v := 3) hx hb dX12_readsOne_13 (by decide) ?_
    refine k_V (wr := (mWa γ z10 z11 z12 z13 z14 z15 z16 z17 z18 z19 z22 z23 a)) 1 gw_1421 gw_1423 gp_58 gw_15 gw_1424 hd_X12_fails hC hw (c_m_fails γ l z z2 z10 z11 z12 z13 z14 z15 z16 z17 z18 z19 z22 z23 z24 z25 z26 z27 z28 z29 z30 z31 z32 z33 z36 z37 z38 z39 z40 z41 z42 z43 z44 z45 z46 z47 z48 z55 z56 z59 z60 z61 n0 n1 n49 n50 n51 n52 n53 n54 n57 n58 n62 n63 n g rs 3 hn) ⟨by decide, by decide⟩ ⟨by decide, by decide⟩ hl.1 rfl 0 rfl rfl rfl (Nat.le_of_ble_eq_true rfl) [0, 1] [2, 3, 4, 5, 6, 7, 8, 9, 10, 11, 12, 13] rfl rfl rfl rfl (by decide) dX12_readsOne_14 (fun r w1 H locs hq hw => ?_)
    obtain ⟨rfl, rfl⟩ := hq
    have hw : kW γ A ((mWa γ z10 z11 z12 z13 z14 z15 z16 z17 z18 z19 z22 z23 a) ++ (mWz γ z z2 z10 z11 z12 z13 z14 z15 z16 z17 z18 z19 z22 z23 z24 z25 z26 z27 z28 z29 z30 z31 z32 z33 z36 z37 z38 z39 z40 z41 z42 z43 z44 z45 z46 z47 z48 z55 z56 z59 z60 z61 n0 n1 n49 n50 n51 n52 n53 n54 n57 n58 n62 n63 g n (F_m_fails g n rs 3))) s H locs := hw
    refine W.eq (g2 := F0 m 17 ls [.int 0]) rfl ?_
    have hE : (F_m_readsOne4 g n rs a lo hi) = (0, (F_m_fails g n rs 3), a) := by unfold F_m_readsOne4; rw [if_pos c_223]
    have hw : kW γ A ((mWa γ z10 z11 z12 z13 z14 z15 z16 z17 z18 z19 z22 z23 ((F_m_readsOne4 g n rs a lo hi).2.2)) ++ (mWz γ z z2 z10 z11 z12 z13 z14 z15 z16 z17 z18 z19 z22 z23 z24 z25 z26 z27 z28 z29 z30 z31 z32 z33 z36 z37 z38 z39 z40 z41 z42 z43 z44 z45 z46 z47 z48 z55 z56 z59 z60 z61 n0 n1 n49 n50 n51 n52 n53 n54 n57 n58 n62 n63 g n ((F_m_readsOne4 g n rs a lo hi).2.1))) s H locs := by first | (rw [hE]; exact hw) | exact hw
    exact k_zret hC hr hlocks rfl hw [12, 13, 0, 1, 2, 3, 4, 5, 6, 7, 8, 9, 10, 11] rfl rfl ⟨by rw [hE], rfl⟩ (by decide) (by decide) dX12_readsOne_17


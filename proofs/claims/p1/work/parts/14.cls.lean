theorem dX11_isThought_0 : decode cX11_isThought 0 = .ok (.iload_n 1, 1) := by decide +kernel
theorem dX11_isThought_1 : decode cX11_isThought 1 = .ok (.ifCond .lt 18, 3) := by decide +kernel
theorem dX11_isThought_4 : decode cX11_isThought 4 = .ok (.iload_n 1, 1) := by decide +kernel
theorem dX11_isThought_5 : decode cX11_isThought 5 = .ok (.aload_n 0, 1) := by decide +kernel
theorem dX11_isThought_6 : decode cX11_isThought 6 = .ok (.getfield 65, 3) := by decide +kernel
theorem dX11_isThought_9 : decode cX11_isThought 9 = .ok (.getfield 108, 3) := by decide +kernel
theorem dX11_isThought_12 : decode cX11_isThought 12 = .ok (.if_icmp .ge 7, 3) := by decide +kernel
theorem dX11_isThought_15 : decode cX11_isThought 15 = .ok (.iconst 1, 1) := by decide +kernel
theorem dX11_isThought_16 : decode cX11_isThought 16 = .ok (.goto 4, 3) := by decide +kernel
theorem dX11_isThought_19 : decode cX11_isThought 19 = .ok (.iconst 0, 1) := by decide +kernel
theorem dX11_isThought_20 : decode cX11_isThought 20 = .ok (.ireturn, 1) := by decide +kernel
theorem dX11_isTenant_0 : decode cX11_isTenant 0 = .ok (.iload_n 1, 1) := by decide +kernel
theorem dX11_isTenant_1 : decode cX11_isTenant 1 = .ok (.ifCond .lt 18, 3) := by decide +kernel
theorem dX11_isTenant_4 : decode cX11_isTenant 4 = .ok (.iload_n 1, 1) := by decide +kernel
theorem dX11_isTenant_5 : decode cX11_isTenant 5 = .ok (.aload_n 0, 1) := by decide +kernel
theorem dX11_isTenant_6 : decode cX11_isTenant 6 = .ok (.getfield 65, 3) := by decide +kernel
theorem dX11_isTenant_9 : decode cX11_isTenant 9 = .ok (.getfield 111, 3) := by decide +kernel
theorem dX11_isTenant_12 : decode cX11_isTenant 12 = .ok (.if_icmp .ge 7, 3) := by decide +kernel
theorem dX11_isTenant_15 : decode cX11_isTenant 15 = .ok (.iconst 1, 1) := by decide +kernel
theorem dX11_isTenant_16 : decode cX11_isTenant 16 = .ok (.goto 4, 3) := by decide +kernel
theorem dX11_isTenant_19 : decode cX11_isTenant 19 = .ok (.iconst 0, 1) := by decide +kernel
theorem dX11_isTenant_20 : decode cX11_isTenant 20 = .ok (.ireturn, 1) := by decide +kernel
theorem dX11_areBoth_0 : decode cX11_areBoth 0 = .ok (.aload_n 0, 1) := by decide +kernel
theorem dX11_areBoth_1 : decode cX11_areBoth 1 = .ok (.iload_n 1, 1) := by decide +kernel
theorem dX11_areBoth_2 : decode cX11_areBoth 2 = .ok (.invokevirtual 114, 3) := by decide +kernel
theorem dX11_areBoth_5 : decode cX11_areBoth 5 = .ok (.ifCond .eq 15, 3) := by decide +kernel
theorem dX11_areBoth_8 : decode cX11_areBoth 8 = .ok (.aload_n 0, 1) := by decide +kernel
theorem dX11_areBoth_9 : decode cX11_areBoth 9 = .ok (.iload_n 2, 1) := by decide +kernel
theorem dX11_areBoth_10 : decode cX11_areBoth 10 = .ok (.invokevirtual 118, 3) := by decide +kernel
theorem dX11_areBoth_13 : decode cX11_areBoth 13 = .ok (.ifCond .eq 7, 3) := by decide +kernel
theorem dX11_areBoth_16 : decode cX11_areBoth 16 = .ok (.iconst 1, 1) := by decide +kernel
theorem dX11_areBoth_17 : decode cX11_areBoth 17 = .ok (.goto 4, 3) := by decide +kernel
theorem dX11_areBoth_20 : decode cX11_areBoth 20 = .ok (.iconst 0, 1) := by decide +kernel
theorem dX11_areBoth_21 : decode cX11_areBoth 21 = .ok (.ireturn, 1) := by decide +kernel
theorem dX11_thought_0 : decode cX11_thought 0 = .ok (.aload_n 0, 1) := by decide +kernel
theorem dX11_thought_1 : decode cX11_thought 1 = .ok (.iload_n 1, 1) := by decide +kernel
theorem dX11_thought_2 : decode cX11_thought 2 = .ok (.invokevirtual 118, 3) := by decide +kernel
theorem dX11_thought_5 : decode cX11_thought 5 = .ok (.ifCond .ne 5, 3) := by decide +kernel
theorem dX11_thought_8 : decode cX11_thought 8 = .ok (.iconst (-1), 1) := by decide +kernel
theorem dX11_thought_9 : decode cX11_thought 9 = .ok (.ireturn, 1) := by decide +kernel
theorem dX11_thought_10 : decode cX11_thought 10 = .ok (.iload_n 2, 1) := by decide +kernel
theorem dX11_thought_11 : decode cX11_thought 11 = .ok (.tableswitch 72 0 3 #[29, 39, 49, 59], 29) := by decide +kernel
theorem dX11_thought_40 : decode cX11_thought 40 = .ok (.aload_n 0, 1) := by decide +kernel
theorem dX11_thought_41 : decode cX11_thought 41 = .ok (.getfield 65, 3) := by decide +kernel
theorem dX11_thought_44 : decode cX11_thought 44 = .ok (.getfield 121, 3) := by decide +kernel
theorem dX11_thought_47 : decode cX11_thought 47 = .ok (.iload_n 1, 1) := by decide +kernel
theorem dX11_thought_48 : decode cX11_thought 48 = .ok (.iaload, 1) := by decide +kernel
theorem dX11_thought_49 : decode cX11_thought 49 = .ok (.ireturn, 1) := by decide +kernel
theorem dX11_thought_50 : decode cX11_thought 50 = .ok (.aload_n 0, 1) := by decide +kernel
theorem dX11_thought_51 : decode cX11_thought 51 = .ok (.getfield 65, 3) := by decide +kernel
theorem dX11_thought_54 : decode cX11_thought 54 = .ok (.getfield 125, 3) := by decide +kernel
theorem dX11_thought_57 : decode cX11_thought 57 = .ok (.iload_n 1, 1) := by decide +kernel
theorem dX11_thought_58 : decode cX11_thought 58 = .ok (.iaload, 1) := by decide +kernel
theorem dX11_thought_59 : decode cX11_thought 59 = .ok (.ireturn, 1) := by decide +kernel
theorem dX11_thought_60 : decode cX11_thought 60 = .ok (.aload_n 0, 1) := by decide +kernel
theorem dX11_thought_61 : decode cX11_thought 61 = .ok (.getfield 65, 3) := by decide +kernel
theorem dX11_thought_64 : decode cX11_thought 64 = .ok (.getfield 128, 3) := by decide +kernel
theorem dX11_thought_67 : decode cX11_thought 67 = .ok (.iload_n 1, 1) := by decide +kernel
theorem dX11_thought_68 : decode cX11_thought 68 = .ok (.iaload, 1) := by decide +kernel
theorem dX11_thought_69 : decode cX11_thought 69 = .ok (.ireturn, 1) := by decide +kernel
theorem dX11_thought_70 : decode cX11_thought 70 = .ok (.aload_n 0, 1) := by decide +kernel
theorem dX11_thought_71 : decode cX11_thought 71 = .ok (.getfield 26, 3) := by decide +kernel
theorem dX11_thought_74 : decode cX11_thought 74 = .ok (.getfield 131, 3) := by decide +kernel
theorem dX11_thought_77 : decode cX11_thought 77 = .ok (.getfield 135, 3) := by decide +kernel
theorem dX11_thought_80 : decode cX11_thought 80 = .ok (.iload_n 1, 1) := by decide +kernel
theorem dX11_thought_81 : decode cX11_thought 81 = .ok (.iaload, 1) := by decide +kernel
theorem dX11_thought_82 : decode cX11_thought 82 = .ok (.ireturn, 1) := by decide +kernel
theorem dX11_thought_83 : decode cX11_thought 83 = .ok (.iconst (-1), 1) := by decide +kernel
theorem dX11_thought_84 : decode cX11_thought 84 = .ok (.ireturn, 1) := by decide +kernel
theorem dX11_tenant_0 : decode cX11_tenant 0 = .ok (.aload_n 0, 1) := by decide +kernel
theorem dX11_tenant_1 : decode cX11_tenant 1 = .ok (.iload_n 1, 1) := by decide +kernel
theorem dX11_tenant_2 : decode cX11_tenant 2 = .ok (.invokevirtual 114, 3) := by decide +kernel
theorem dX11_tenant_5 : decode cX11_tenant 5 = .ok (.ifCond .ne 7, 3) := by decide +kernel
theorem dX11_tenant_8 : decode cX11_tenant 8 = .ok (.sipush (-1000), 3) := by decide +kernel
theorem dX11_tenant_11 : decode cX11_tenant 11 = .ok (.ireturn, 1) := by decide +kernel
theorem dX11_tenant_12 : decode cX11_tenant 12 = .ok (.aload_n 0, 1) := by decide +kernel
theorem dX11_tenant_13 : decode cX11_tenant 13 = .ok (.getfield 26, 3) := by decide +kernel
theorem dX11_tenant_16 : decode cX11_tenant 16 = .ok (.getfield 131, 3) := by decide +kernel
theorem dX11_tenant_19 : decode cX11_tenant 19 = .ok (.astore_n 3, 1) := by decide +kernel
theorem dX11_tenant_20 : decode cX11_tenant 20 = .ok (.iload_n 2, 1) := by decide +kernel
theorem dX11_tenant_21 : decode cX11_tenant 21 = .ok (.tableswitch 94 0 5 #[39, 49, 56, 63, 70, 84], 39) := by decide +kernel
theorem dX11_tenant_60 : decode cX11_tenant 60 = .ok (.aload_n 0, 1) := by decide +kernel
theorem dX11_tenant_61 : decode cX11_tenant 61 = .ok (.getfield 65, 3) := by decide +kernel
theorem dX11_tenant_64 : decode cX11_tenant 64 = .ok (.getfield 140, 3) := by decide +kernel
theorem dX11_tenant_67 : decode cX11_tenant 67 = .ok (.iload_n 1, 1) := by decide +kernel
theorem dX11_tenant_68 : decode cX11_tenant 68 = .ok (.iaload, 1) := by decide +kernel
theorem dX11_tenant_69 : decode cX11_tenant 69 = .ok (.ireturn, 1) := by decide +kernel
theorem dX11_tenant_70 : decode cX11_tenant 70 = .ok (.aload_n 3, 1) := by decide +kernel
theorem dX11_tenant_71 : decode cX11_tenant 71 = .ok (.getfield 143, 3) := by decide +kernel
theorem dX11_tenant_74 : decode cX11_tenant 74 = .ok (.iload_n 1, 1) := by decide +kernel
theorem dX11_tenant_75 : decode cX11_tenant 75 = .ok (.iaload, 1) := by decide +kernel
theorem dX11_tenant_76 : decode cX11_tenant 76 = .ok (.ireturn, 1) := by decide +kernel
theorem dX11_tenant_77 : decode cX11_tenant 77 = .ok (.aload_n 3, 1) := by decide +kernel
theorem dX11_tenant_78 : decode cX11_tenant 78 = .ok (.getfield 146, 3) := by decide +kernel
theorem dX11_tenant_81 : decode cX11_tenant 81 = .ok (.iload_n 1, 1) := by decide +kernel
theorem dX11_tenant_82 : decode cX11_tenant 82 = .ok (.iaload, 1) := by decide +kernel
theorem dX11_tenant_83 : decode cX11_tenant 83 = .ok (.ireturn, 1) := by decide +kernel
theorem dX11_tenant_84 : decode cX11_tenant 84 = .ok (.aload_n 3, 1) := by decide +kernel
theorem dX11_tenant_85 : decode cX11_tenant 85 = .ok (.getfield 149, 3) := by decide +kernel
theorem dX11_tenant_88 : decode cX11_tenant 88 = .ok (.iload_n 1, 1) := by decide +kernel
theorem dX11_tenant_89 : decode cX11_tenant 89 = .ok (.iaload, 1) := by decide +kernel
theorem dX11_tenant_90 : decode cX11_tenant 90 = .ok (.ireturn, 1) := by decide +kernel
theorem dX11_tenant_91 : decode cX11_tenant 91 = .ok (.aload_n 3, 1) := by decide +kernel
theorem dX11_tenant_92 : decode cX11_tenant 92 = .ok (.iload_n 1, 1) := by decide +kernel
theorem dX11_tenant_93 : decode cX11_tenant 93 = .ok (.invokevirtual 152, 3) := by decide +kernel
theorem dX11_tenant_96 : decode cX11_tenant 96 = .ok (.ifCond .eq 7, 3) := by decide +kernel
theorem dX11_tenant_99 : decode cX11_tenant 99 = .ok (.iconst 1, 1) := by decide +kernel
theorem dX11_tenant_100 : decode cX11_tenant 100 = .ok (.goto 4, 3) := by decide +kernel
theorem dX11_tenant_103 : decode cX11_tenant 103 = .ok (.iconst 0, 1) := by decide +kernel
theorem dX11_tenant_104 : decode cX11_tenant 104 = .ok (.ireturn, 1) := by decide +kernel
theorem dX11_tenant_105 : decode cX11_tenant 105 = .ok (.aload_n 3, 1) := by decide +kernel
theorem dX11_tenant_106 : decode cX11_tenant 106 = .ok (.aload_n 0, 1) := by decide +kernel
theorem dX11_tenant_107 : decode cX11_tenant 107 = .ok (.getfield 65, 3) := by decide +kernel
theorem dX11_tenant_110 : decode cX11_tenant 110 = .ok (.iload_n 1, 1) := by decide +kernel
theorem dX11_tenant_111 : decode cX11_tenant 111 = .ok (.invokevirtual 155, 3) := by decide +kernel
theorem dX11_tenant_114 : decode cX11_tenant 114 = .ok (.ireturn, 1) := by decide +kernel
theorem dX11_tenant_115 : decode cX11_tenant 115 = .ok (.sipush (-1000), 3) := by decide +kernel
theorem dX11_tenant_118 : decode cX11_tenant 118 = .ok (.ireturn, 1) := by decide +kernel
theorem dX11_keeps_0 : decode cX11_keeps 0 = .ok (.aload_n 0, 1) := by decide +kernel
theorem dX11_keeps_1 : decode cX11_keeps 1 = .ok (.iload_n 1, 1) := by decide +kernel
theorem dX11_keeps_2 : decode cX11_keeps 2 = .ok (.iload_n 2, 1) := by decide +kernel
theorem dX11_keeps_3 : decode cX11_keeps 3 = .ok (.invokevirtual 159, 3) := by decide +kernel
theorem dX11_keeps_6 : decode cX11_keeps 6 = .ok (.ifCond .eq 18, 3) := by decide +kernel
theorem dX11_keeps_9 : decode cX11_keeps 9 = .ok (.aload_n 0, 1) := by decide +kernel
theorem dX11_keeps_10 : decode cX11_keeps 10 = .ok (.getfield 26, 3) := by decide +kernel
theorem dX11_keeps_13 : decode cX11_keeps 13 = .ok (.getfield 131, 3) := by decide +kernel
theorem dX11_keeps_16 : decode cX11_keeps 16 = .ok (.iload_n 1, 1) := by decide +kernel
theorem dX11_keeps_17 : decode cX11_keeps 17 = .ok (.iload_n 2, 1) := by decide +kernel
theorem dX11_keeps_18 : decode cX11_keeps 18 = .ok (.invokevirtual 163, 3) := by decide +kernel
theorem dX11_keeps_21 : decode cX11_keeps 21 = .ok (.goto 4, 3) := by decide +kernel
theorem dX11_keeps_24 : decode cX11_keeps 24 = .ok (.iconst (-1), 1) := by decide +kernel
theorem dX11_keeps_25 : decode cX11_keeps 25 = .ok (.ireturn, 1) := by decide +kernel
theorem dX11_think_0 : decode cX11_think 0 = .ok (.aload_n 0, 1) := by decide +kernel
theorem dX11_think_1 : decode cX11_think 1 = .ok (.iload_n 1, 1) := by decide +kernel
theorem dX11_think_2 : decode cX11_think 2 = .ok (.iload_n 2, 1) := by decide +kernel
theorem dX11_think_3 : decode cX11_think 3 = .ok (.invokevirtual 159, 3) := by decide +kernel
theorem dX11_think_6 : decode cX11_think 6 = .ok (.ifCond .eq 22, 3) := by decide +kernel
theorem dX11_think_9 : decode cX11_think 9 = .ok (.aload_n 0, 1) := by decide +kernel
theorem dX11_think_10 : decode cX11_think 10 = .ok (.getfield 26, 3) := by decide +kernel
theorem dX11_think_13 : decode cX11_think 13 = .ok (.getfield 131, 3) := by decide +kernel
theorem dX11_think_16 : decode cX11_think 16 = .ok (.aload_n 0, 1) := by decide +kernel
theorem dX11_think_17 : decode cX11_think 17 = .ok (.getfield 65, 3) := by decide +kernel
theorem dX11_think_20 : decode cX11_think 20 = .ok (.iload_n 1, 1) := by decide +kernel
theorem dX11_think_21 : decode cX11_think 21 = .ok (.iload_n 2, 1) := by decide +kernel
theorem dX11_think_22 : decode cX11_think 22 = .ok (.invokevirtual 195, 3) := by decide +kernel
theorem dX11_think_25 : decode cX11_think 25 = .ok (.ifCond .ne 5, 3) := by decide +kernel
theorem dX11_think_28 : decode cX11_think 28 = .ok (.iconst (-1), 1) := by decide +kernel
theorem dX11_think_29 : decode cX11_think 29 = .ok (.ireturn, 1) := by decide +kernel
theorem dX11_think_30 : decode cX11_think 30 = .ok (.aload_n 0, 1) := by decide +kernel
theorem dX11_think_31 : decode cX11_think 31 = .ok (.getfield 19, 3) := by decide +kernel
theorem dX11_think_34 : decode cX11_think 34 = .ok (.aload_n 0, 1) := by decide +kernel
theorem dX11_think_35 : decode cX11_think 35 = .ok (.getfield 26, 3) := by decide +kernel
theorem dX11_think_38 : decode cX11_think 38 = .ok (.getfield 131, 3) := by decide +kernel
theorem dX11_think_41 : decode cX11_think 41 = .ok (.invokevirtual 199, 3) := by decide +kernel
theorem dX11_think_44 : decode cX11_think 44 = .ok (.aload_n 0, 1) := by decide +kernel
theorem dX11_think_45 : decode cX11_think 45 = .ok (.getfield 26, 3) := by decide +kernel
theorem dX11_think_48 : decode cX11_think 48 = .ok (.getfield 131, 3) := by decide +kernel
theorem dX11_think_51 : decode cX11_think 51 = .ok (.aload_n 0, 1) := by decide +kernel
theorem dX11_think_52 : decode cX11_think 52 = .ok (.getfield 65, 3) := by decide +kernel
theorem dX11_think_55 : decode cX11_think 55 = .ok (.iload_n 1, 1) := by decide +kernel
theorem dX11_think_56 : decode cX11_think 56 = .ok (.iload_n 2, 1) := by decide +kernel
theorem dX11_think_57 : decode cX11_think 57 = .ok (.aload_n 0, 1) := by decide +kernel
theorem dX11_think_58 : decode cX11_think 58 = .ok (.getfield 65, 3) := by decide +kernel
theorem dX11_think_61 : decode cX11_think 61 = .ok (.getfield 167, 3) := by decide +kernel
theorem dX11_think_64 : decode cX11_think 64 = .ok (.invokevirtual 203, 3) := by decide +kernel
theorem dX11_think_67 : decode cX11_think 67 = .ok (.ireturn, 1) := by decide +kernel
theorem dX11_pool_0 : decode cX11_pool 0 = .ok (.aload_n 0, 1) := by decide +kernel
theorem dX11_pool_1 : decode cX11_pool 1 = .ok (.iload_n 1, 1) := by decide +kernel
theorem dX11_pool_2 : decode cX11_pool 2 = .ok (.iload_n 2, 1) := by decide +kernel
theorem dX11_pool_3 : decode cX11_pool 3 = .ok (.invokevirtual 159, 3) := by decide +kernel
theorem dX11_pool_6 : decode cX11_pool 6 = .ok (.ifCond .eq 18, 3) := by decide +kernel
theorem dX11_pool_9 : decode cX11_pool 9 = .ok (.aload_n 0, 1) := by decide +kernel
theorem dX11_pool_10 : decode cX11_pool 10 = .ok (.getfield 26, 3) := by decide +kernel
theorem dX11_pool_13 : decode cX11_pool 13 = .ok (.getfield 131, 3) := by decide +kernel
theorem dX11_pool_16 : decode cX11_pool 16 = .ok (.iload_n 1, 1) := by decide +kernel
theorem dX11_pool_17 : decode cX11_pool 17 = .ok (.iload_n 2, 1) := by decide +kernel
theorem dX11_pool_18 : decode cX11_pool 18 = .ok (.invokevirtual 210, 3) := by decide +kernel
theorem dX11_pool_21 : decode cX11_pool 21 = .ok (.ifCond .ne 5, 3) := by decide +kernel
theorem dX11_pool_24 : decode cX11_pool 24 = .ok (.iconst 0, 1) := by decide +kernel
theorem dX11_pool_25 : decode cX11_pool 25 = .ok (.ireturn, 1) := by decide +kernel
theorem dX11_pool_26 : decode cX11_pool 26 = .ok (.aload_n 0, 1) := by decide +kernel
theorem dX11_pool_27 : decode cX11_pool 27 = .ok (.getfield 19, 3) := by decide +kernel
theorem dX11_pool_30 : decode cX11_pool 30 = .ok (.aload_n 0, 1) := by decide +kernel
theorem dX11_pool_31 : decode cX11_pool 31 = .ok (.getfield 26, 3) := by decide +kernel
theorem dX11_pool_34 : decode cX11_pool 34 = .ok (.getfield 131, 3) := by decide +kernel
theorem dX11_pool_37 : decode cX11_pool 37 = .ok (.invokevirtual 199, 3) := by decide +kernel
theorem dX11_pool_40 : decode cX11_pool 40 = .ok (.aload_n 0, 1) := by decide +kernel
theorem dX11_pool_41 : decode cX11_pool 41 = .ok (.getfield 26, 3) := by decide +kernel
theorem dX11_pool_44 : decode cX11_pool 44 = .ok (.getfield 131, 3) := by decide +kernel
theorem dX11_pool_47 : decode cX11_pool 47 = .ok (.iload_n 1, 1) := by decide +kernel
theorem dX11_pool_48 : decode cX11_pool 48 = .ok (.iload_n 2, 1) := by decide +kernel
theorem dX11_pool_49 : decode cX11_pool 49 = .ok (.invokevirtual 213, 3) := by decide +kernel
theorem dX11_pool_52 : decode cX11_pool 52 = .ok (.iconst 1, 1) := by decide +kernel
theorem dX11_pool_53 : decode cX11_pool 53 = .ok (.ireturn, 1) := by decide +kernel
theorem dX11_tithed_0 : decode cX11_tithed 0 = .ok (.aload_n 0, 1) := by decide +kernel
theorem dX11_tithed_1 : decode cX11_tithed 1 = .ok (.iload_n 1, 1) := by decide +kernel
theorem dX11_tithed_2 : decode cX11_tithed 2 = .ok (.iload_n 2, 1) := by decide +kernel
theorem dX11_tithed_3 : decode cX11_tithed 3 = .ok (.invokevirtual 159, 3) := by decide +kernel
theorem dX11_tithed_6 : decode cX11_tithed 6 = .ok (.ifCond .eq 17, 3) := by decide +kernel
theorem dX11_tithed_9 : decode cX11_tithed 9 = .ok (.aload_n 0, 1) := by decide +kernel
theorem dX11_tithed_10 : decode cX11_tithed 10 = .ok (.getfield 26, 3) := by decide +kernel
theorem dX11_tithed_13 : decode cX11_tithed 13 = .ok (.getfield 131, 3) := by decide +kernel
theorem dX11_tithed_16 : decode cX11_tithed 16 = .ok (.iload_n 1, 1) := by decide +kernel
theorem dX11_tithed_17 : decode cX11_tithed 17 = .ok (.invokevirtual 152, 3) := by decide +kernel
theorem dX11_tithed_20 : decode cX11_tithed 20 = .ok (.ifCond .eq 5, 3) := by decide +kernel
theorem dX11_tithed_23 : decode cX11_tithed 23 = .ok (.iconst (-1), 1) := by decide +kernel
theorem dX11_tithed_24 : decode cX11_tithed 24 = .ok (.ireturn, 1) := by decide +kernel
theorem dX11_tithed_25 : decode cX11_tithed 25 = .ok (.aload_n 0, 1) := by decide +kernel
theorem dX11_tithed_26 : decode cX11_tithed 26 = .ok (.getfield 26, 3) := by decide +kernel
theorem dX11_tithed_29 : decode cX11_tithed 29 = .ok (.getfield 131, 3) := by decide +kernel
theorem dX11_tithed_32 : decode cX11_tithed 32 = .ok (.getfield 146, 3) := by decide +kernel
theorem dX11_tithed_35 : decode cX11_tithed 35 = .ok (.iload_n 1, 1) := by decide +kernel
theorem dX11_tithed_36 : decode cX11_tithed 36 = .ok (.iaload, 1) := by decide +kernel
theorem dX11_tithed_37 : decode cX11_tithed 37 = .ok (.istore_n 3, 1) := by decide +kernel
theorem dX11_tithed_38 : decode cX11_tithed 38 = .ok (.aload_n 0, 1) := by decide +kernel
theorem dX11_tithed_39 : decode cX11_tithed 39 = .ok (.getfield 26, 3) := by decide +kernel
theorem dX11_tithed_42 : decode cX11_tithed 42 = .ok (.getfield 131, 3) := by decide +kernel
theorem dX11_tithed_45 : decode cX11_tithed 45 = .ok (.aload_n 0, 1) := by decide +kernel
theorem dX11_tithed_46 : decode cX11_tithed 46 = .ok (.getfield 65, 3) := by decide +kernel
theorem dX11_tithed_49 : decode cX11_tithed 49 = .ok (.iload_n 1, 1) := by decide +kernel
theorem dX11_tithed_50 : decode cX11_tithed 50 = .ok (.invokevirtual 257, 3) := by decide +kernel
theorem dX11_tithed_53 : decode cX11_tithed 53 = .ok (.istore 4, 2) := by decide +kernel
theorem dX11_tithed_55 : decode cX11_tithed 55 = .ok (.iconst 1, 1) := by decide +kernel
theorem dX11_tithed_56 : decode cX11_tithed 56 = .ok (.istore 5, 2) := by decide +kernel
theorem dX11_tithed_58 : decode cX11_tithed 58 = .ok (.iload 5, 2) := by decide +kernel
theorem dX11_tithed_60 : decode cX11_tithed 60 = .ok (.bipush 36, 2) := by decide +kernel
theorem dX11_tithed_62 : decode cX11_tithed 62 = .ok (.if_icmp .gt 48, 3) := by decide +kernel
theorem dX11_tithed_65 : decode cX11_tithed 65 = .ok (.iinc 3 1, 3) := by decide +kernel
theorem dX11_tithed_68 : decode cX11_tithed 68 = .ok (.iload_n 3, 1) := by decide +kernel
theorem dX11_tithed_69 : decode cX11_tithed 69 = .ok (.aload_n 0, 1) := by decide +kernel
theorem dX11_tithed_70 : decode cX11_tithed 70 = .ok (.getfield 65, 3) := by decide +kernel
theorem dX11_tithed_73 : decode cX11_tithed 73 = .ok (.getfield 167, 3) := by decide +kernel
theorem dX11_tithed_76 : decode cX11_tithed 76 = .ok (.if_icmp .lt 17, 3) := by decide +kernel
theorem dX11_tithed_79 : decode cX11_tithed 79 = .ok (.iconst 0, 1) := by decide +kernel
theorem dX11_tithed_80 : decode cX11_tithed 80 = .ok (.istore_n 3, 1) := by decide +kernel
theorem dX11_tithed_81 : decode cX11_tithed 81 = .ok (.iload 4, 2) := by decide +kernel
theorem dX11_tithed_83 : decode cX11_tithed 83 = .ok (.iload_n 2, 1) := by decide +kernel
theorem dX11_tithed_84 : decode cX11_tithed 84 = .ok (.invokestatic 260, 3) := by decide +kernel
theorem dX11_tithed_87 : decode cX11_tithed 87 = .ok (.ifCond .eq 6, 3) := by decide +kernel
theorem dX11_tithed_90 : decode cX11_tithed 90 = .ok (.iload 5, 2) := by decide +kernel
theorem dX11_tithed_92 : decode cX11_tithed 92 = .ok (.ireturn, 1) := by decide +kernel
theorem dX11_tithed_93 : decode cX11_tithed 93 = .ok (.aload_n 0, 1) := by decide +kernel
theorem dX11_tithed_94 : decode cX11_tithed 94 = .ok (.getfield 65, 3) := by decide +kernel
theorem dX11_tithed_97 : decode cX11_tithed 97 = .ok (.iload 4, 2) := by decide +kernel
theorem dX11_tithed_99 : decode cX11_tithed 99 = .ok (.invokevirtual 263, 3) := by decide +kernel
theorem dX11_tithed_102 : decode cX11_tithed 102 = .ok (.istore 4, 2) := by decide +kernel
theorem dX11_tithed_104 : decode cX11_tithed 104 = .ok (.iinc 5 1, 3) := by decide +kernel
theorem dX11_tithed_107 : decode cX11_tithed 107 = .ok (.goto (-49), 3) := by decide +kernel
theorem dX11_tithed_110 : decode cX11_tithed 110 = .ok (.iconst (-1), 1) := by decide +kernel
theorem dX11_tithed_111 : decode cX11_tithed 111 = .ok (.ireturn, 1) := by decide +kernel
theorem dX11_gate_0 : decode cX11_gate 0 = .ok (.aload_n 0, 1) := by decide +kernel
theorem dX11_gate_1 : decode cX11_gate 1 = .ok (.iload_n 1, 1) := by decide +kernel
theorem dX11_gate_2 : decode cX11_gate 2 = .ok (.invokevirtual 114, 3) := by decide +kernel
theorem dX11_gate_5 : decode cX11_gate 5 = .ok (.ifCond .eq 17, 3) := by decide +kernel
theorem dX11_gate_8 : decode cX11_gate 8 = .ok (.aload_n 0, 1) := by decide +kernel
theorem dX11_gate_9 : decode cX11_gate 9 = .ok (.getfield 26, 3) := by decide +kernel
theorem dX11_gate_12 : decode cX11_gate 12 = .ok (.getfield 131, 3) := by decide +kernel
theorem dX11_gate_15 : decode cX11_gate 15 = .ok (.iload_n 1, 1) := by decide +kernel
theorem dX11_gate_16 : decode cX11_gate 16 = .ok (.invokevirtual 152, 3) := by decide +kernel
theorem dX11_gate_19 : decode cX11_gate 19 = .ok (.ifCond .eq 5, 3) := by decide +kernel
theorem dX11_gate_22 : decode cX11_gate 22 = .ok (.iconst (-1), 1) := by decide +kernel
theorem dX11_gate_23 : decode cX11_gate 23 = .ok (.ireturn, 1) := by decide +kernel
theorem dX11_gate_24 : decode cX11_gate 24 = .ok (.aload_n 0, 1) := by decide +kernel
theorem dX11_gate_25 : decode cX11_gate 25 = .ok (.getfield 19, 3) := by decide +kernel
theorem dX11_gate_28 : decode cX11_gate 28 = .ok (.aload_n 0, 1) := by decide +kernel
theorem dX11_gate_29 : decode cX11_gate 29 = .ok (.getfield 26, 3) := by decide +kernel
theorem dX11_gate_32 : decode cX11_gate 32 = .ok (.getfield 131, 3) := by decide +kernel
theorem dX11_gate_35 : decode cX11_gate 35 = .ok (.invokevirtual 199, 3) := by decide +kernel
theorem dX11_gate_38 : decode cX11_gate 38 = .ok (.aload_n 0, 1) := by decide +kernel
theorem dX11_gate_39 : decode cX11_gate 39 = .ok (.getfield 26, 3) := by decide +kernel
theorem dX11_gate_42 : decode cX11_gate 42 = .ok (.getfield 131, 3) := by decide +kernel
theorem dX11_gate_45 : decode cX11_gate 45 = .ok (.aload_n 0, 1) := by decide +kernel
theorem dX11_gate_46 : decode cX11_gate 46 = .ok (.getfield 65, 3) := by decide +kernel
theorem dX11_gate_49 : decode cX11_gate 49 = .ok (.iload_n 1, 1) := by decide +kernel
theorem dX11_gate_50 : decode cX11_gate 50 = .ok (.invokevirtual 207, 3) := by decide +kernel
theorem dX11_gate_53 : decode cX11_gate 53 = .ok (.ireturn, 1) := by decide +kernel
theorem dX11_safe_0 : decode cX11_safe 0 = .ok (.aload_n 0, 1) := by decide +kernel
theorem dX11_safe_1 : decode cX11_safe 1 = .ok (.iload_n 1, 1) := by decide +kernel
theorem dX11_safe_2 : decode cX11_safe 2 = .ok (.invokevirtual 114, 3) := by decide +kernel
theorem dX11_safe_5 : decode cX11_safe 5 = .ok (.ifCond .ne 5, 3) := by decide +kernel
theorem dX11_safe_8 : decode cX11_safe 8 = .ok (.iconst (-1), 1) := by decide +kernel
theorem dX11_safe_9 : decode cX11_safe 9 = .ok (.ireturn, 1) := by decide +kernel
theorem dX11_safe_10 : decode cX11_safe 10 = .ok (.aload_n 0, 1) := by decide +kernel
theorem dX11_safe_11 : decode cX11_safe 11 = .ok (.getfield 26, 3) := by decide +kernel
theorem dX11_safe_14 : decode cX11_safe 14 = .ok (.getfield 131, 3) := by decide +kernel
theorem dX11_safe_17 : decode cX11_safe 17 = .ok (.aload_n 0, 1) := by decide +kernel
theorem dX11_safe_18 : decode cX11_safe 18 = .ok (.getfield 65, 3) := by decide +kernel
theorem dX11_safe_21 : decode cX11_safe 21 = .ok (.iload_n 1, 1) := by decide +kernel
theorem dX11_safe_22 : decode cX11_safe 22 = .ok (.aload_n 0, 1) := by decide +kernel
theorem dX11_safe_23 : decode cX11_safe 23 = .ok (.getfield 65, 3) := by decide +kernel
theorem dX11_safe_26 : decode cX11_safe 26 = .ok (.getfield 167, 3) := by decide +kernel
theorem dX11_safe_29 : decode cX11_safe 29 = .ok (.invokevirtual 283, 3) := by decide +kernel
theorem dX11_safe_32 : decode cX11_safe 32 = .ok (.ifCond .eq 7, 3) := by decide +kernel
theorem dX11_safe_35 : decode cX11_safe 35 = .ok (.iconst 0, 1) := by decide +kernel
theorem dX11_safe_36 : decode cX11_safe 36 = .ok (.goto 18, 3) := by decide +kernel
theorem dX11_safe_39 : decode cX11_safe 39 = .ok (.aload_n 0, 1) := by decide +kernel
theorem dX11_safe_40 : decode cX11_safe 40 = .ok (.getfield 26, 3) := by decide +kernel
theorem dX11_safe_43 : decode cX11_safe 43 = .ok (.getfield 131, 3) := by decide +kernel
theorem dX11_safe_46 : decode cX11_safe 46 = .ok (.aload_n 0, 1) := by decide +kernel
theorem dX11_safe_47 : decode cX11_safe 47 = .ok (.getfield 65, 3) := by decide +kernel
theorem dX11_safe_50 : decode cX11_safe 50 = .ok (.iload_n 1, 1) := by decide +kernel
theorem dX11_safe_51 : decode cX11_safe 51 = .ok (.invokevirtual 155, 3) := by decide +kernel
theorem dX11_safe_54 : decode cX11_safe 54 = .ok (.ireturn, 1) := by decide +kernel
theorem dX11_ring_0 : decode cX11_ring 0 = .ok (.aload_n 0, 1) := by decide +kernel
theorem dX11_ring_1 : decode cX11_ring 1 = .ok (.iload_n 1, 1) := by decide +kernel
theorem dX11_ring_2 : decode cX11_ring 2 = .ok (.invokevirtual 118, 3) := by decide +kernel
theorem dX11_ring_5 : decode cX11_ring 5 = .ok (.ifCond .ne 5, 3) := by decide +kernel
theorem dX11_ring_8 : decode cX11_ring 8 = .ok (.iconst (-1), 1) := by decide +kernel
theorem dX11_ring_9 : decode cX11_ring 9 = .ok (.ireturn, 1) := by decide +kernel
theorem dX11_ring_10 : decode cX11_ring 10 = .ok (.aload_n 0, 1) := by decide +kernel
theorem dX11_ring_11 : decode cX11_ring 11 = .ok (.getfield 65, 3) := by decide +kernel
theorem dX11_ring_14 : decode cX11_ring 14 = .ok (.getfield 128, 3) := by decide +kernel
theorem dX11_ring_17 : decode cX11_ring 17 = .ok (.iload_n 1, 1) := by decide +kernel
theorem dX11_ring_18 : decode cX11_ring 18 = .ok (.iaload, 1) := by decide +kernel
theorem dX11_ring_19 : decode cX11_ring 19 = .ok (.istore_n 2, 1) := by decide +kernel
theorem dX11_ring_20 : decode cX11_ring 20 = .ok (.iconst 1, 1) := by decide +kernel
theorem dX11_ring_21 : decode cX11_ring 21 = .ok (.istore_n 3, 1) := by decide +kernel
theorem dX11_ring_22 : decode cX11_ring 22 = .ok (.iload_n 3, 1) := by decide +kernel
theorem dX11_ring_23 : decode cX11_ring 23 = .ok (.bipush 8, 2) := by decide +kernel
theorem dX11_ring_25 : decode cX11_ring 25 = .ok (.if_icmp .gt 28, 3) := by decide +kernel
theorem dX11_ring_28 : decode cX11_ring 28 = .ok (.iload_n 2, 1) := by decide +kernel
theorem dX11_ring_29 : decode cX11_ring 29 = .ok (.iload_n 1, 1) := by decide +kernel
theorem dX11_ring_30 : decode cX11_ring 30 = .ok (.invokestatic 260, 3) := by decide +kernel
theorem dX11_ring_33 : decode cX11_ring 33 = .ok (.ifCond .eq 5, 3) := by decide +kernel
theorem dX11_ring_36 : decode cX11_ring 36 = .ok (.iload_n 3, 1) := by decide +kernel
theorem dX11_ring_37 : decode cX11_ring 37 = .ok (.ireturn, 1) := by decide +kernel
theorem dX11_ring_38 : decode cX11_ring 38 = .ok (.aload_n 0, 1) := by decide +kernel
theorem dX11_ring_39 : decode cX11_ring 39 = .ok (.getfield 65, 3) := by decide +kernel
theorem dX11_ring_42 : decode cX11_ring 42 = .ok (.iload_n 2, 1) := by decide +kernel
theorem dX11_ring_43 : decode cX11_ring 43 = .ok (.invokevirtual 263, 3) := by decide +kernel
theorem dX11_ring_46 : decode cX11_ring 46 = .ok (.istore_n 2, 1) := by decide +kernel
theorem dX11_ring_47 : decode cX11_ring 47 = .ok (.iinc 3 1, 3) := by decide +kernel
theorem dX11_ring_50 : decode cX11_ring 50 = .ok (.goto (-28), 3) := by decide +kernel
theorem dX11_ring_53 : decode cX11_ring 53 = .ok (.iconst (-1), 1) := by decide +kernel
theorem dX11_ring_54 : decode cX11_ring 54 = .ok (.ireturn, 1) := by decide +kernel
theorem dX11_dowry_0 : decode cX11_dowry 0 = .ok (.aload_n 0, 1) := by decide +kernel
theorem dX11_dowry_1 : decode cX11_dowry 1 = .ok (.iload_n 1, 1) := by decide +kernel
theorem dX11_dowry_2 : decode cX11_dowry 2 = .ok (.invokevirtual 114, 3) := by decide +kernel
theorem dX11_dowry_5 : decode cX11_dowry 5 = .ok (.ifCond .eq 21, 3) := by decide +kernel
theorem dX11_dowry_8 : decode cX11_dowry 8 = .ok (.aload_n 0, 1) := by decide +kernel
theorem dX11_dowry_9 : decode cX11_dowry 9 = .ok (.getfield 26, 3) := by decide +kernel
theorem dX11_dowry_12 : decode cX11_dowry 12 = .ok (.getfield 131, 3) := by decide +kernel
theorem dX11_dowry_15 : decode cX11_dowry 15 = .ok (.aload_n 0, 1) := by decide +kernel
theorem dX11_dowry_16 : decode cX11_dowry 16 = .ok (.getfield 65, 3) := by decide +kernel
theorem dX11_dowry_19 : decode cX11_dowry 19 = .ok (.iload_n 1, 1) := by decide +kernel
theorem dX11_dowry_20 : decode cX11_dowry 20 = .ok (.invokevirtual 301, 3) := by decide +kernel
theorem dX11_dowry_23 : decode cX11_dowry 23 = .ok (.goto 4, 3) := by decide +kernel
theorem dX11_dowry_26 : decode cX11_dowry 26 = .ok (.iconst (-1), 1) := by decide +kernel
theorem dX11_dowry_27 : decode cX11_dowry 27 = .ok (.ireturn, 1) := by decide +kernel
theorem dX11_ways_0 : decode cX11_ways 0 = .ok (.aload_n 0, 1) := by decide +kernel
theorem dX11_ways_1 : decode cX11_ways 1 = .ok (.iload_n 1, 1) := by decide +kernel
theorem dX11_ways_2 : decode cX11_ways 2 = .ok (.iload_n 2, 1) := by decide +kernel
theorem dX11_ways_3 : decode cX11_ways 3 = .ok (.invokevirtual 159, 3) := by decide +kernel
theorem dX11_ways_6 : decode cX11_ways 6 = .ok (.ifCond .eq 14, 3) := by decide +kernel
theorem dX11_ways_9 : decode cX11_ways 9 = .ok (.iload_n 3, 1) := by decide +kernel
theorem dX11_ways_10 : decode cX11_ways 10 = .ok (.iconst 1, 1) := by decide +kernel
theorem dX11_ways_11 : decode cX11_ways 11 = .ok (.if_icmp .lt 9, 3) := by decide +kernel
theorem dX11_ways_14 : decode cX11_ways 14 = .ok (.iload_n 3, 1) := by decide +kernel
theorem dX11_ways_15 : decode cX11_ways 15 = .ok (.bipush 9, 2) := by decide +kernel
theorem dX11_ways_17 : decode cX11_ways 17 = .ok (.if_icmp .le 5, 3) := by decide +kernel
theorem dX11_ways_20 : decode cX11_ways 20 = .ok (.iconst (-1), 1) := by decide +kernel
theorem dX11_ways_21 : decode cX11_ways 21 = .ok (.ireturn, 1) := by decide +kernel
theorem dX11_ways_22 : decode cX11_ways 22 = .ok (.aload_n 0, 1) := by decide +kernel
theorem dX11_ways_23 : decode cX11_ways 23 = .ok (.getfield 44, 3) := by decide +kernel
theorem dX11_ways_26 : decode cX11_ways 26 = .ok (.aload_n 0, 1) := by decide +kernel
theorem dX11_ways_27 : decode cX11_ways 27 = .ok (.getfield 26, 3) := by decide +kernel
theorem dX11_ways_30 : decode cX11_ways 30 = .ok (.getfield 131, 3) := by decide +kernel
theorem dX11_ways_33 : decode cX11_ways 33 = .ok (.aload_n 0, 1) := by decide +kernel
theorem dX11_ways_34 : decode cX11_ways 34 = .ok (.getfield 65, 3) := by decide +kernel
theorem dX11_ways_37 : decode cX11_ways 37 = .ok (.iload_n 1, 1) := by decide +kernel
theorem dX11_ways_38 : decode cX11_ways 38 = .ok (.invokevirtual 257, 3) := by decide +kernel
theorem dX11_ways_41 : decode cX11_ways 41 = .ok (.iconst 1, 1) := by decide +kernel
theorem dX11_ways_42 : decode cX11_ways 42 = .ok (.invokevirtual 267, 3) := by decide +kernel
theorem dX11_ways_45 : decode cX11_ways 45 = .ok (.iconst 1, 1) := by decide +kernel
theorem dX11_ways_46 : decode cX11_ways 46 = .ok (.istore 4, 2) := by decide +kernel
theorem dX11_ways_48 : decode cX11_ways 48 = .ok (.iload 4, 2) := by decide +kernel
theorem dX11_ways_50 : decode cX11_ways 50 = .ok (.iload_n 3, 1) := by decide +kernel
theorem dX11_ways_51 : decode cX11_ways 51 = .ok (.if_icmp .ge 21, 3) := by decide +kernel
theorem dX11_ways_54 : decode cX11_ways 54 = .ok (.aload_n 0, 1) := by decide +kernel
theorem dX11_ways_55 : decode cX11_ways 55 = .ok (.getfield 44, 3) := by decide +kernel
theorem dX11_ways_58 : decode cX11_ways 58 = .ok (.aload_n 0, 1) := by decide +kernel
theorem dX11_ways_59 : decode cX11_ways 59 = .ok (.getfield 65, 3) := by decide +kernel
theorem dX11_ways_62 : decode cX11_ways 62 = .ok (.iconst 0, 1) := by decide +kernel
theorem dX11_ways_63 : decode cX11_ways 63 = .ok (.invokevirtual 270, 3) := by decide +kernel
theorem dX11_ways_66 : decode cX11_ways 66 = .ok (.iinc 4 1, 3) := by decide +kernel
theorem dX11_ways_69 : decode cX11_ways 69 = .ok (.goto (-21), 3) := by decide +kernel
theorem dX11_ways_72 : decode cX11_ways 72 = .ok (.aload_n 0, 1) := by decide +kernel
theorem dX11_ways_73 : decode cX11_ways 73 = .ok (.getfield 44, 3) := by decide +kernel
theorem dX11_ways_76 : decode cX11_ways 76 = .ok (.getfield 274, 3) := by decide +kernel
theorem dX11_ways_79 : decode cX11_ways 79 = .ok (.iload_n 2, 1) := by decide +kernel
theorem dX11_ways_80 : decode cX11_ways 80 = .ok (.iaload, 1) := by decide +kernel
theorem dX11_ways_81 : decode cX11_ways 81 = .ok (.ireturn, 1) := by decide +kernel
theorem dX11_chance_0 : decode cX11_chance 0 = .ok (.aload_n 0, 1) := by decide +kernel
theorem dX11_chance_1 : decode cX11_chance 1 = .ok (.iload_n 1, 1) := by decide +kernel
theorem dX11_chance_2 : decode cX11_chance 2 = .ok (.iload_n 2, 1) := by decide +kernel
theorem dX11_chance_3 : decode cX11_chance 3 = .ok (.invokevirtual 159, 3) := by decide +kernel
theorem dX11_chance_6 : decode cX11_chance 6 = .ok (.ifCond .eq 17, 3) := by decide +kernel
theorem dX11_chance_9 : decode cX11_chance 9 = .ok (.aload_n 0, 1) := by decide +kernel
theorem dX11_chance_10 : decode cX11_chance 10 = .ok (.getfield 26, 3) := by decide +kernel
theorem dX11_chance_13 : decode cX11_chance 13 = .ok (.getfield 131, 3) := by decide +kernel
theorem dX11_chance_16 : decode cX11_chance 16 = .ok (.iload_n 1, 1) := by decide +kernel
theorem dX11_chance_17 : decode cX11_chance 17 = .ok (.invokevirtual 152, 3) := by decide +kernel
theorem dX11_chance_20 : decode cX11_chance 20 = .ok (.ifCond .eq 5, 3) := by decide +kernel
theorem dX11_chance_23 : decode cX11_chance 23 = .ok (.iconst (-1), 1) := by decide +kernel
theorem dX11_chance_24 : decode cX11_chance 24 = .ok (.ireturn, 1) := by decide +kernel
theorem dX11_chance_25 : decode cX11_chance 25 = .ok (.aload_n 0, 1) := by decide +kernel
theorem dX11_chance_26 : decode cX11_chance 26 = .ok (.getfield 26, 3) := by decide +kernel
theorem dX11_chance_29 : decode cX11_chance 29 = .ok (.getfield 131, 3) := by decide +kernel
theorem dX11_chance_32 : decode cX11_chance 32 = .ok (.aload_n 0, 1) := by decide +kernel
theorem dX11_chance_33 : decode cX11_chance 33 = .ok (.getfield 65, 3) := by decide +kernel
theorem dX11_chance_36 : decode cX11_chance 36 = .ok (.iload_n 1, 1) := by decide +kernel
theorem dX11_chance_37 : decode cX11_chance 37 = .ok (.invokevirtual 257, 3) := by decide +kernel
theorem dX11_chance_40 : decode cX11_chance 40 = .ok (.istore_n 3, 1) := by decide +kernel
theorem dX11_chance_41 : decode cX11_chance 41 = .ok (.iload_n 3, 1) := by decide +kernel
theorem dX11_chance_42 : decode cX11_chance 42 = .ok (.invokestatic 277, 3) := by decide +kernel
theorem dX11_chance_45 : decode cX11_chance 45 = .ok (.istore 4, 2) := by decide +kernel
theorem dX11_chance_47 : decode cX11_chance 47 = .ok (.aload_n 0, 1) := by decide +kernel
theorem dX11_chance_48 : decode cX11_chance 48 = .ok (.getfield 44, 3) := by decide +kernel
theorem dX11_chance_51 : decode cX11_chance 51 = .ok (.iload_n 3, 1) := by decide +kernel
theorem dX11_chance_52 : decode cX11_chance 52 = .ok (.iload 4, 2) := by decide +kernel
theorem dX11_chance_54 : decode cX11_chance 54 = .ok (.ifCond .ne 7, 3) := by decide +kernel
theorem dX11_chance_57 : decode cX11_chance 57 = .ok (.iconst 0, 1) := by decide +kernel
theorem dX11_chance_58 : decode cX11_chance 58 = .ok (.goto 9, 3) := by decide +kernel
theorem dX11_chance_61 : decode cX11_chance 61 = .ok (.ldc_w 282, 3) := by decide +kernel
theorem dX11_chance_64 : decode cX11_chance 64 = .ok (.iload 4, 2) := by decide +kernel
theorem dX11_chance_66 : decode cX11_chance 66 = .ok (.idiv, 1) := by decide +kernel
theorem dX11_chance_67 : decode cX11_chance 67 = .ok (.invokevirtual 267, 3) := by decide +kernel
theorem dX11_chance_70 : decode cX11_chance 70 = .ok (.aload_n 0, 1) := by decide +kernel
theorem dX11_chance_71 : decode cX11_chance 71 = .ok (.getfield 26, 3) := by decide +kernel
theorem dX11_chance_74 : decode cX11_chance 74 = .ok (.getfield 131, 3) := by decide +kernel
theorem dX11_chance_77 : decode cX11_chance 77 = .ok (.getfield 146, 3) := by decide +kernel
theorem dX11_chance_80 : decode cX11_chance 80 = .ok (.iload_n 1, 1) := by decide +kernel
theorem dX11_chance_81 : decode cX11_chance 81 = .ok (.iaload, 1) := by decide +kernel
theorem dX11_chance_82 : decode cX11_chance 82 = .ok (.iconst 1, 1) := by decide +kernel
theorem dX11_chance_83 : decode cX11_chance 83 = .ok (.iadd, 1) := by decide +kernel
theorem dX11_chance_84 : decode cX11_chance 84 = .ok (.istore 5, 2) := by decide +kernel
theorem dX11_chance_86 : decode cX11_chance 86 = .ok (.iload 5, 2) := by decide +kernel
theorem dX11_chance_88 : decode cX11_chance 88 = .ok (.aload_n 0, 1) := by decide +kernel
theorem dX11_chance_89 : decode cX11_chance 89 = .ok (.getfield 65, 3) := by decide +kernel
theorem dX11_chance_92 : decode cX11_chance 92 = .ok (.getfield 167, 3) := by decide +kernel
theorem dX11_chance_95 : decode cX11_chance 95 = .ok (.if_icmp .ge 21, 3) := by decide +kernel
theorem dX11_chance_98 : decode cX11_chance 98 = .ok (.aload_n 0, 1) := by decide +kernel
theorem dX11_chance_99 : decode cX11_chance 99 = .ok (.getfield 44, 3) := by decide +kernel
theorem dX11_chance_102 : decode cX11_chance 102 = .ok (.aload_n 0, 1) := by decide +kernel
theorem dX11_chance_103 : decode cX11_chance 103 = .ok (.getfield 65, 3) := by decide +kernel
theorem dX11_chance_106 : decode cX11_chance 106 = .ok (.iconst 1, 1) := by decide +kernel
theorem dX11_chance_107 : decode cX11_chance 107 = .ok (.invokevirtual 270, 3) := by decide +kernel
theorem dX11_chance_110 : decode cX11_chance 110 = .ok (.iinc 5 1, 3) := by decide +kernel
theorem dX11_chance_113 : decode cX11_chance 113 = .ok (.goto (-27), 3) := by decide +kernel
theorem dX11_chance_116 : decode cX11_chance 116 = .ok (.aload_n 0, 1) := by decide +kernel
theorem dX11_chance_117 : decode cX11_chance 117 = .ok (.getfield 44, 3) := by decide +kernel
theorem dX11_chance_120 : decode cX11_chance 120 = .ok (.getfield 274, 3) := by decide +kernel
theorem dX11_chance_123 : decode cX11_chance 123 = .ok (.iload_n 2, 1) := by decide +kernel
theorem dX11_chance_124 : decode cX11_chance 124 = .ok (.iaload, 1) := by decide +kernel
theorem dX11_chance_125 : decode cX11_chance 125 = .ok (.ireturn, 1) := by decide +kernel
theorem dX11_guess_0 : decode cX11_guess 0 = .ok (.aload_n 0, 1) := by decide +kernel
theorem dX11_guess_1 : decode cX11_guess 1 = .ok (.iload_n 1, 1) := by decide +kernel
theorem dX11_guess_2 : decode cX11_guess 2 = .ok (.invokevirtual 118, 3) := by decide +kernel
theorem dX11_guess_5 : decode cX11_guess 5 = .ok (.ifCond .eq 15, 3) := by decide +kernel
theorem dX11_guess_8 : decode cX11_guess 8 = .ok (.aload_n 0, 1) := by decide +kernel
theorem dX11_guess_9 : decode cX11_guess 9 = .ok (.getfield 26, 3) := by decide +kernel
theorem dX11_guess_12 : decode cX11_guess 12 = .ok (.getfield 189, 3) := by decide +kernel
theorem dX11_guess_15 : decode cX11_guess 15 = .ok (.bipush 8, 2) := by decide +kernel
theorem dX11_guess_17 : decode cX11_guess 17 = .ok (.if_icmp .lt 5, 3) := by decide +kernel
theorem dX11_guess_20 : decode cX11_guess 20 = .ok (.iconst 0, 1) := by decide +kernel
theorem dX11_guess_21 : decode cX11_guess 21 = .ok (.ireturn, 1) := by decide +kernel
theorem dX11_guess_22 : decode cX11_guess 22 = .ok (.aload_n 0, 1) := by decide +kernel
theorem dX11_guess_23 : decode cX11_guess 23 = .ok (.getfield 26, 3) := by decide +kernel
theorem dX11_guess_26 : decode cX11_guess 26 = .ok (.getfield 311, 3) := by decide +kernel
theorem dX11_guess_29 : decode cX11_guess 29 = .ok (.aload_n 0, 1) := by decide +kernel
theorem dX11_guess_30 : decode cX11_guess 30 = .ok (.getfield 26, 3) := by decide +kernel
theorem dX11_guess_33 : decode cX11_guess 33 = .ok (.getfield 189, 3) := by decide +kernel
theorem dX11_guess_36 : decode cX11_guess 36 = .ok (.iload_n 1, 1) := by decide +kernel
theorem dX11_guess_37 : decode cX11_guess 37 = .ok (.iconst 2, 1) := by decide +kernel
theorem dX11_guess_38 : decode cX11_guess 38 = .ok (.imul, 1) := by decide +kernel
theorem dX11_guess_39 : decode cX11_guess 39 = .ok (.iload_n 2, 1) := by decide +kernel
theorem dX11_guess_40 : decode cX11_guess 40 = .ok (.ifCond .eq 7, 3) := by decide +kernel
theorem dX11_guess_43 : decode cX11_guess 43 = .ok (.iconst 1, 1) := by decide +kernel
theorem dX11_guess_44 : decode cX11_guess 44 = .ok (.goto 4, 3) := by decide +kernel
theorem dX11_guess_47 : decode cX11_guess 47 = .ok (.iconst 0, 1) := by decide +kernel
theorem dX11_guess_48 : decode cX11_guess 48 = .ok (.iadd, 1) := by decide +kernel
theorem dX11_guess_49 : decode cX11_guess 49 = .ok (.iastore, 1) := by decide +kernel
theorem dX11_guess_50 : decode cX11_guess 50 = .ok (.aload_n 0, 1) := by decide +kernel
theorem dX11_guess_51 : decode cX11_guess 51 = .ok (.getfield 26, 3) := by decide +kernel
theorem dX11_guess_54 : decode cX11_guess 54 = .ok (.dup, 1) := by decide +kernel
theorem dX11_guess_55 : decode cX11_guess 55 = .ok (.getfield 189, 3) := by decide +kernel
theorem dX11_guess_58 : decode cX11_guess 58 = .ok (.iconst 1, 1) := by decide +kernel
theorem dX11_guess_59 : decode cX11_guess 59 = .ok (.iadd, 1) := by decide +kernel
theorem dX11_guess_60 : decode cX11_guess 60 = .ok (.putfield 189, 3) := by decide +kernel
theorem dX11_guess_63 : decode cX11_guess 63 = .ok (.iconst 1, 1) := by decide +kernel
theorem dX11_guess_64 : decode cX11_guess 64 = .ok (.ireturn, 1) := by decide +kernel
theorem dX11_dead_0 : decode cX11_dead 0 = .ok (.iconst 0, 1) := by decide +kernel
theorem dX11_dead_1 : decode cX11_dead 1 = .ok (.istore_n 1, 1) := by decide +kernel
theorem dX11_dead_2 : decode cX11_dead 2 = .ok (.iconst 0, 1) := by decide +kernel
theorem dX11_dead_3 : decode cX11_dead 3 = .ok (.istore_n 2, 1) := by decide +kernel
theorem dX11_dead_4 : decode cX11_dead 4 = .ok (.iload_n 2, 1) := by decide +kernel
theorem dX11_dead_5 : decode cX11_dead 5 = .ok (.aload_n 0, 1) := by decide +kernel
theorem dX11_dead_6 : decode cX11_dead 6 = .ok (.getfield 65, 3) := by decide +kernel
theorem dX11_dead_9 : decode cX11_dead 9 = .ok (.getfield 108, 3) := by decide +kernel
theorem dX11_dead_12 : decode cX11_dead 12 = .ok (.if_icmp .ge 27, 3) := by decide +kernel
theorem dX11_dead_15 : decode cX11_dead 15 = .ok (.aload_n 0, 1) := by decide +kernel
theorem dX11_dead_16 : decode cX11_dead 16 = .ok (.getfield 65, 3) := by decide +kernel
theorem dX11_dead_19 : decode cX11_dead 19 = .ok (.getfield 128, 3) := by decide +kernel
theorem dX11_dead_22 : decode cX11_dead 22 = .ok (.iload_n 2, 1) := by decide +kernel
theorem dX11_dead_23 : decode cX11_dead 23 = .ok (.iaload, 1) := by decide +kernel
theorem dX11_dead_24 : decode cX11_dead 24 = .ok (.ifCond .ne 9, 3) := by decide +kernel
theorem dX11_dead_27 : decode cX11_dead 27 = .ok (.iload_n 1, 1) := by decide +kernel
theorem dX11_dead_28 : decode cX11_dead 28 = .ok (.iconst 1, 1) := by decide +kernel
theorem dX11_dead_29 : decode cX11_dead 29 = .ok (.iload_n 2, 1) := by decide +kernel
theorem dX11_dead_30 : decode cX11_dead 30 = .ok (.ishl, 1) := by decide +kernel
theorem dX11_dead_31 : decode cX11_dead 31 = .ok (.ior, 1) := by decide +kernel
theorem dX11_dead_32 : decode cX11_dead 32 = .ok (.istore_n 1, 1) := by decide +kernel
theorem dX11_dead_33 : decode cX11_dead 33 = .ok (.iinc 2 1, 3) := by decide +kernel
theorem dX11_dead_36 : decode cX11_dead 36 = .ok (.goto (-32), 3) := by decide +kernel
theorem dX11_dead_39 : decode cX11_dead 39 = .ok (.iload_n 1, 1) := by decide +kernel
theorem dX11_dead_40 : decode cX11_dead 40 = .ok (.ireturn, 1) := by decide +kernel
theorem dX11_poorest_0 : decode cX11_poorest 0 = .ok (.iconst (-1), 1) := by decide +kernel
theorem dX11_poorest_1 : decode cX11_poorest 1 = .ok (.istore_n 1, 1) := by decide +kernel
theorem dX11_poorest_2 : decode cX11_poorest 2 = .ok (.iconst 0, 1) := by decide +kernel
theorem dX11_poorest_3 : decode cX11_poorest 3 = .ok (.istore_n 2, 1) := by decide +kernel
theorem dX11_poorest_4 : decode cX11_poorest 4 = .ok (.iconst 0, 1) := by decide +kernel
theorem dX11_poorest_5 : decode cX11_poorest 5 = .ok (.istore_n 3, 1) := by decide +kernel
theorem dX11_poorest_6 : decode cX11_poorest 6 = .ok (.iload_n 3, 1) := by decide +kernel
theorem dX11_poorest_7 : decode cX11_poorest 7 = .ok (.aload_n 0, 1) := by decide +kernel
theorem dX11_poorest_8 : decode cX11_poorest 8 = .ok (.getfield 65, 3) := by decide +kernel
theorem dX11_poorest_11 : decode cX11_poorest 11 = .ok (.getfield 111, 3) := by decide +kernel
theorem dX11_poorest_14 : decode cX11_poorest 14 = .ok (.if_icmp .ge 56, 3) := by decide +kernel
theorem dX11_poorest_17 : decode cX11_poorest 17 = .ok (.aload_n 0, 1) := by decide +kernel
theorem dX11_poorest_18 : decode cX11_poorest 18 = .ok (.getfield 26, 3) := by decide +kernel
theorem dX11_poorest_21 : decode cX11_poorest 21 = .ok (.getfield 131, 3) := by decide +kernel
theorem dX11_poorest_24 : decode cX11_poorest 24 = .ok (.aload_n 0, 1) := by decide +kernel
theorem dX11_poorest_25 : decode cX11_poorest 25 = .ok (.getfield 65, 3) := by decide +kernel
theorem dX11_poorest_28 : decode cX11_poorest 28 = .ok (.iload_n 3, 1) := by decide +kernel
theorem dX11_poorest_29 : decode cX11_poorest 29 = .ok (.invokevirtual 301, 3) := by decide +kernel
theorem dX11_poorest_32 : decode cX11_poorest 32 = .ok (.istore 4, 2) := by decide +kernel
theorem dX11_poorest_34 : decode cX11_poorest 34 = .ok (.aload_n 0, 1) := by decide +kernel
theorem dX11_poorest_35 : decode cX11_poorest 35 = .ok (.getfield 26, 3) := by decide +kernel
theorem dX11_poorest_38 : decode cX11_poorest 38 = .ok (.getfield 131, 3) := by decide +kernel
theorem dX11_poorest_41 : decode cX11_poorest 41 = .ok (.iload_n 3, 1) := by decide +kernel
theorem dX11_poorest_42 : decode cX11_poorest 42 = .ok (.invokevirtual 152, 3) := by decide +kernel
theorem dX11_poorest_45 : decode cX11_poorest 45 = .ok (.ifCond .ne 19, 3) := by decide +kernel
theorem dX11_poorest_48 : decode cX11_poorest 48 = .ok (.iload_n 1, 1) := by decide +kernel
theorem dX11_poorest_49 : decode cX11_poorest 49 = .ok (.iconst (-1), 1) := by decide +kernel
theorem dX11_poorest_50 : decode cX11_poorest 50 = .ok (.if_icmp .eq 9, 3) := by decide +kernel
theorem dX11_poorest_53 : decode cX11_poorest 53 = .ok (.iload 4, 2) := by decide +kernel
theorem dX11_poorest_55 : decode cX11_poorest 55 = .ok (.iload_n 2, 1) := by decide +kernel
theorem dX11_poorest_56 : decode cX11_poorest 56 = .ok (.if_icmp .ge 8, 3) := by decide +kernel
theorem dX11_poorest_59 : decode cX11_poorest 59 = .ok (.iload_n 3, 1) := by decide +kernel
theorem dX11_poorest_60 : decode cX11_poorest 60 = .ok (.istore_n 1, 1) := by decide +kernel
theorem dX11_poorest_61 : decode cX11_poorest 61 = .ok (.iload 4, 2) := by decide +kernel
theorem dX11_poorest_63 : decode cX11_poorest 63 = .ok (.istore_n 2, 1) := by decide +kernel
theorem dX11_poorest_64 : decode cX11_poorest 64 = .ok (.iinc 3 1, 3) := by decide +kernel
theorem dX11_poorest_67 : decode cX11_poorest 67 = .ok (.goto (-61), 3) := by decide +kernel
theorem dX11_poorest_70 : decode cX11_poorest 70 = .ok (.iload_n 1, 1) := by decide +kernel
theorem dX11_poorest_71 : decode cX11_poorest 71 = .ok (.ireturn, 1) := by decide +kernel
theorem dX11_fits_0 : decode cX11_fits 0 = .ok (.iconst 0, 1) := by decide +kernel
theorem dX11_fits_1 : decode cX11_fits 1 = .ok (.istore_n 1, 1) := by decide +kernel
theorem dX11_fits_2 : decode cX11_fits 2 = .ok (.iconst 0, 1) := by decide +kernel
theorem dX11_fits_3 : decode cX11_fits 3 = .ok (.istore_n 2, 1) := by decide +kernel
theorem dX11_fits_4 : decode cX11_fits 4 = .ok (.iload_n 2, 1) := by decide +kernel
theorem dX11_fits_5 : decode cX11_fits 5 = .ok (.aload_n 0, 1) := by decide +kernel
theorem dX11_fits_6 : decode cX11_fits 6 = .ok (.getfield 65, 3) := by decide +kernel
theorem dX11_fits_9 : decode cX11_fits 9 = .ok (.getfield 108, 3) := by decide +kernel
theorem dX11_fits_12 : decode cX11_fits 12 = .ok (.if_icmp .ge 34, 3) := by decide +kernel
theorem dX11_fits_15 : decode cX11_fits 15 = .ok (.aload_n 0, 1) := by decide +kernel
theorem dX11_fits_16 : decode cX11_fits 16 = .ok (.getfield 26, 3) := by decide +kernel
theorem dX11_fits_19 : decode cX11_fits 19 = .ok (.aload_n 0, 1) := by decide +kernel
theorem dX11_fits_20 : decode cX11_fits 20 = .ok (.getfield 65, 3) := by decide +kernel
theorem dX11_fits_23 : decode cX11_fits 23 = .ok (.getfield 128, 3) := by decide +kernel
theorem dX11_fits_26 : decode cX11_fits 26 = .ok (.iload_n 2, 1) := by decide +kernel
theorem dX11_fits_27 : decode cX11_fits 27 = .ok (.iaload, 1) := by decide +kernel
theorem dX11_fits_28 : decode cX11_fits 28 = .ok (.invokevirtual 314, 3) := by decide +kernel
theorem dX11_fits_31 : decode cX11_fits 31 = .ok (.ifCond .eq 9, 3) := by decide +kernel
theorem dX11_fits_34 : decode cX11_fits 34 = .ok (.iload_n 1, 1) := by decide +kernel
theorem dX11_fits_35 : decode cX11_fits 35 = .ok (.iconst 1, 1) := by decide +kernel
theorem dX11_fits_36 : decode cX11_fits 36 = .ok (.iload_n 2, 1) := by decide +kernel
theorem dX11_fits_37 : decode cX11_fits 37 = .ok (.ishl, 1) := by decide +kernel
theorem dX11_fits_38 : decode cX11_fits 38 = .ok (.ior, 1) := by decide +kernel
theorem dX11_fits_39 : decode cX11_fits 39 = .ok (.istore_n 1, 1) := by decide +kernel
theorem dX11_fits_40 : decode cX11_fits 40 = .ok (.iinc 2 1, 3) := by decide +kernel
theorem dX11_fits_43 : decode cX11_fits 43 = .ok (.goto (-39), 3) := by decide +kernel
theorem dX11_fits_46 : decode cX11_fits 46 = .ok (.iload_n 1, 1) := by decide +kernel
theorem dX11_fits_47 : decode cX11_fits 47 = .ok (.ireturn, 1) := by decide +kernel
theorem dJ6_bitCount_0f7a4_0 : decode cJ6_bitCount_0f7a4 0 = .ok (.iload_n 0, 1) := by decide +kernel
theorem dJ6_bitCount_0f7a4_1 : decode cJ6_bitCount_0f7a4 1 = .ok (.iload_n 0, 1) := by decide +kernel
theorem dJ6_bitCount_0f7a4_2 : decode cJ6_bitCount_0f7a4 2 = .ok (.iconst 1, 1) := by decide +kernel
theorem dJ6_bitCount_0f7a4_3 : decode cJ6_bitCount_0f7a4 3 = .ok (.iushr, 1) := by decide +kernel
theorem dJ6_bitCount_0f7a4_4 : decode cJ6_bitCount_0f7a4 4 = .ok (.ldc_w 265, 3) := by decide +kernel
theorem dJ6_bitCount_0f7a4_7 : decode cJ6_bitCount_0f7a4 7 = .ok (.iand, 1) := by decide +kernel
theorem dJ6_bitCount_0f7a4_8 : decode cJ6_bitCount_0f7a4 8 = .ok (.isub, 1) := by decide +kernel
theorem dJ6_bitCount_0f7a4_9 : decode cJ6_bitCount_0f7a4 9 = .ok (.istore_n 0, 1) := by decide +kernel
theorem dJ6_bitCount_0f7a4_10 : decode cJ6_bitCount_0f7a4 10 = .ok (.iload_n 0, 1) := by decide +kernel
theorem dJ6_bitCount_0f7a4_11 : decode cJ6_bitCount_0f7a4 11 = .ok (.ldc_w 266, 3) := by decide +kernel
theorem dJ6_bitCount_0f7a4_14 : decode cJ6_bitCount_0f7a4 14 = .ok (.iand, 1) := by decide +kernel
theorem dJ6_bitCount_0f7a4_15 : decode cJ6_bitCount_0f7a4 15 = .ok (.iload_n 0, 1) := by decide +kernel
theorem dJ6_bitCount_0f7a4_16 : decode cJ6_bitCount_0f7a4 16 = .ok (.iconst 2, 1) := by decide +kernel
theorem dJ6_bitCount_0f7a4_17 : decode cJ6_bitCount_0f7a4 17 = .ok (.iushr, 1) := by decide +kernel
theorem dJ6_bitCount_0f7a4_18 : decode cJ6_bitCount_0f7a4 18 = .ok (.ldc_w 266, 3) := by decide +kernel
theorem dJ6_bitCount_0f7a4_21 : decode cJ6_bitCount_0f7a4 21 = .ok (.iand, 1) := by decide +kernel
theorem dJ6_bitCount_0f7a4_22 : decode cJ6_bitCount_0f7a4 22 = .ok (.iadd, 1) := by decide +kernel
theorem dJ6_bitCount_0f7a4_23 : decode cJ6_bitCount_0f7a4 23 = .ok (.istore_n 0, 1) := by decide +kernel
theorem dJ6_bitCount_0f7a4_24 : decode cJ6_bitCount_0f7a4 24 = .ok (.iload_n 0, 1) := by decide +kernel
theorem dJ6_bitCount_0f7a4_25 : decode cJ6_bitCount_0f7a4 25 = .ok (.iload_n 0, 1) := by decide +kernel
theorem dJ6_bitCount_0f7a4_26 : decode cJ6_bitCount_0f7a4 26 = .ok (.iconst 4, 1) := by decide +kernel
theorem dJ6_bitCount_0f7a4_27 : decode cJ6_bitCount_0f7a4 27 = .ok (.iushr, 1) := by decide +kernel
theorem dJ6_bitCount_0f7a4_28 : decode cJ6_bitCount_0f7a4 28 = .ok (.iadd, 1) := by decide +kernel
theorem dJ6_bitCount_0f7a4_29 : decode cJ6_bitCount_0f7a4 29 = .ok (.ldc_w 267, 3) := by decide +kernel
theorem dJ6_bitCount_0f7a4_32 : decode cJ6_bitCount_0f7a4 32 = .ok (.iand, 1) := by decide +kernel
theorem dJ6_bitCount_0f7a4_33 : decode cJ6_bitCount_0f7a4 33 = .ok (.istore_n 0, 1) := by decide +kernel
theorem dJ6_bitCount_0f7a4_34 : decode cJ6_bitCount_0f7a4 34 = .ok (.iload_n 0, 1) := by decide +kernel
theorem dJ6_bitCount_0f7a4_35 : decode cJ6_bitCount_0f7a4 35 = .ok (.iload_n 0, 1) := by decide +kernel
theorem dJ6_bitCount_0f7a4_36 : decode cJ6_bitCount_0f7a4 36 = .ok (.bipush 8, 2) := by decide +kernel
theorem dJ6_bitCount_0f7a4_38 : decode cJ6_bitCount_0f7a4 38 = .ok (.iushr, 1) := by decide +kernel
theorem dJ6_bitCount_0f7a4_39 : decode cJ6_bitCount_0f7a4 39 = .ok (.iadd, 1) := by decide +kernel
theorem dJ6_bitCount_0f7a4_40 : decode cJ6_bitCount_0f7a4 40 = .ok (.istore_n 0, 1) := by decide +kernel
theorem dJ6_bitCount_0f7a4_41 : decode cJ6_bitCount_0f7a4 41 = .ok (.iload_n 0, 1) := by decide +kernel
theorem dJ6_bitCount_0f7a4_42 : decode cJ6_bitCount_0f7a4 42 = .ok (.iload_n 0, 1) := by decide +kernel
theorem dJ6_bitCount_0f7a4_43 : decode cJ6_bitCount_0f7a4 43 = .ok (.bipush 16, 2) := by decide +kernel
theorem dJ6_bitCount_0f7a4_45 : decode cJ6_bitCount_0f7a4 45 = .ok (.iushr, 1) := by decide +kernel
theorem dJ6_bitCount_0f7a4_46 : decode cJ6_bitCount_0f7a4 46 = .ok (.iadd, 1) := by decide +kernel
theorem dJ6_bitCount_0f7a4_47 : decode cJ6_bitCount_0f7a4 47 = .ok (.istore_n 0, 1) := by decide +kernel
theorem dJ6_bitCount_0f7a4_48 : decode cJ6_bitCount_0f7a4 48 = .ok (.iload_n 0, 1) := by decide +kernel
theorem dJ6_bitCount_0f7a4_49 : decode cJ6_bitCount_0f7a4 49 = .ok (.bipush 63, 2) := by decide +kernel
theorem dJ6_bitCount_0f7a4_51 : decode cJ6_bitCount_0f7a4 51 = .ok (.iand, 1) := by decide +kernel
theorem dJ6_bitCount_0f7a4_52 : decode cJ6_bitCount_0f7a4 52 = .ok (.ireturn, 1) := by decide +kernel
theorem dX11_ask_0 : decode cX11_ask 0 = .ok (.aload_n 0, 1) := by decide +kernel
theorem dX11_ask_1 : decode cX11_ask 1 = .ok (.invokevirtual 317, 3) := by decide +kernel
theorem dX11_ask_4 : decode cX11_ask 4 = .ok (.istore_n 1, 1) := by decide +kernel
theorem dX11_ask_5 : decode cX11_ask 5 = .ok (.iload_n 1, 1) := by decide +kernel
theorem dX11_ask_6 : decode cX11_ask 6 = .ok (.invokestatic 277, 3) := by decide +kernel
theorem dX11_ask_9 : decode cX11_ask 9 = .ok (.istore_n 2, 1) := by decide +kernel
theorem dX11_ask_10 : decode cX11_ask 10 = .ok (.iconst (-1), 1) := by decide +kernel
theorem dX11_ask_11 : decode cX11_ask 11 = .ok (.istore_n 3, 1) := by decide +kernel
theorem dX11_ask_12 : decode cX11_ask 12 = .ok (.iload_n 2, 1) := by decide +kernel
theorem dX11_ask_13 : decode cX11_ask 13 = .ok (.istore 4, 2) := by decide +kernel
theorem dX11_ask_15 : decode cX11_ask 15 = .ok (.iconst 0, 1) := by decide +kernel
theorem dX11_ask_16 : decode cX11_ask 16 = .ok (.istore 5, 2) := by decide +kernel
theorem dX11_ask_18 : decode cX11_ask 18 = .ok (.iload 5, 2) := by decide +kernel
theorem dX11_ask_20 : decode cX11_ask 20 = .ok (.aload_n 0, 1) := by decide +kernel
theorem dX11_ask_21 : decode cX11_ask 21 = .ok (.getfield 65, 3) := by decide +kernel
theorem dX11_ask_24 : decode cX11_ask 24 = .ok (.getfield 108, 3) := by decide +kernel
theorem dX11_ask_27 : decode cX11_ask 27 = .ok (.if_icmp .ge 50, 3) := by decide +kernel
theorem dX11_ask_30 : decode cX11_ask 30 = .ok (.iload_n 1, 1) := by decide +kernel
theorem dX11_ask_31 : decode cX11_ask 31 = .ok (.aload_n 0, 1) := by decide +kernel
theorem dX11_ask_32 : decode cX11_ask 32 = .ok (.getfield 65, 3) := by decide +kernel
theorem dX11_ask_35 : decode cX11_ask 35 = .ok (.iload 5, 2) := by decide +kernel
theorem dX11_ask_37 : decode cX11_ask 37 = .ok (.invokevirtual 320, 3) := by decide +kernel
theorem dX11_ask_40 : decode cX11_ask 40 = .ok (.iand, 1) := by decide +kernel
theorem dX11_ask_41 : decode cX11_ask 41 = .ok (.invokestatic 277, 3) := by decide +kernel
theorem dX11_ask_44 : decode cX11_ask 44 = .ok (.istore 6, 2) := by decide +kernel
theorem dX11_ask_46 : decode cX11_ask 46 = .ok (.iload 6, 2) := by decide +kernel
theorem dX11_ask_48 : decode cX11_ask 48 = .ok (.iload_n 2, 1) := by decide +kernel
theorem dX11_ask_49 : decode cX11_ask 49 = .ok (.iload 6, 2) := by decide +kernel
theorem dX11_ask_51 : decode cX11_ask 51 = .ok (.isub, 1) := by decide +kernel
theorem dX11_ask_52 : decode cX11_ask 52 = .ok (.invokestatic 323, 3) := by decide +kernel
theorem dX11_ask_55 : decode cX11_ask 55 = .ok (.istore 7, 2) := by decide +kernel
theorem dX11_ask_57 : decode cX11_ask 57 = .ok (.iload 7, 2) := by decide +kernel
theorem dX11_ask_59 : decode cX11_ask 59 = .ok (.iload 4, 2) := by decide +kernel
theorem dX11_ask_61 : decode cX11_ask 61 = .ok (.if_icmp .ge 10, 3) := by decide +kernel
theorem dX11_ask_64 : decode cX11_ask 64 = .ok (.iload 7, 2) := by decide +kernel
theorem dX11_ask_66 : decode cX11_ask 66 = .ok (.istore 4, 2) := by decide +kernel
theorem dX11_ask_68 : decode cX11_ask 68 = .ok (.iload 5, 2) := by decide +kernel
theorem dX11_ask_70 : decode cX11_ask 70 = .ok (.istore_n 3, 1) := by decide +kernel
theorem dX11_ask_71 : decode cX11_ask 71 = .ok (.iinc 5 1, 3) := by decide +kernel
theorem dX11_ask_74 : decode cX11_ask 74 = .ok (.goto (-56), 3) := by decide +kernel
theorem dX11_ask_77 : decode cX11_ask 77 = .ok (.iload_n 3, 1) := by decide +kernel
theorem dX11_ask_78 : decode cX11_ask 78 = .ok (.ireturn, 1) := by decide +kernel
theorem dX0_allParts_0 : decode cX0_allParts 0 = .ok (.iconst 1, 1) := by decide +kernel
theorem dX0_allParts_1 : decode cX0_allParts 1 = .ok (.aload_n 0, 1) := by decide +kernel
theorem dX0_allParts_2 : decode cX0_allParts 2 = .ok (.getfield 53, 3) := by decide +kernel
theorem dX0_allParts_5 : decode cX0_allParts 5 = .ok (.ishl, 1) := by decide +kernel
theorem dX0_allParts_6 : decode cX0_allParts 6 = .ok (.iconst 1, 1) := by decide +kernel
theorem dX0_allParts_7 : decode cX0_allParts 7 = .ok (.isub, 1) := by decide +kernel
theorem dX0_allParts_8 : decode cX0_allParts 8 = .ok (.ireturn, 1) := by decide +kernel
theorem dX11_lacks_0 : decode cX11_lacks 0 = .ok (.iconst 0, 1) := by decide +kernel
theorem dX11_lacks_1 : decode cX11_lacks 1 = .ok (.istore_n 1, 1) := by decide +kernel
theorem dX11_lacks_2 : decode cX11_lacks 2 = .ok (.iconst 0, 1) := by decide +kernel
theorem dX11_lacks_3 : decode cX11_lacks 3 = .ok (.istore_n 2, 1) := by decide +kernel
theorem dX11_lacks_4 : decode cX11_lacks 4 = .ok (.iload_n 2, 1) := by decide +kernel
theorem dX11_lacks_5 : decode cX11_lacks 5 = .ok (.aload_n 0, 1) := by decide +kernel
theorem dX11_lacks_6 : decode cX11_lacks 6 = .ok (.getfield 65, 3) := by decide +kernel
theorem dX11_lacks_9 : decode cX11_lacks 9 = .ok (.getfield 108, 3) := by decide +kernel
theorem dX11_lacks_12 : decode cX11_lacks 12 = .ok (.if_icmp .ge 32, 3) := by decide +kernel
theorem dX11_lacks_15 : decode cX11_lacks 15 = .ok (.aload_n 0, 1) := by decide +kernel
theorem dX11_lacks_16 : decode cX11_lacks 16 = .ok (.getfield 26, 3) := by decide +kernel
theorem dX11_lacks_19 : decode cX11_lacks 19 = .ok (.getfield 131, 3) := by decide +kernel
theorem dX11_lacks_22 : decode cX11_lacks 22 = .ok (.getfield 135, 3) := by decide +kernel
theorem dX11_lacks_25 : decode cX11_lacks 25 = .ok (.iload_n 2, 1) := by decide +kernel
theorem dX11_lacks_26 : decode cX11_lacks 26 = .ok (.iaload, 1) := by decide +kernel
theorem dX11_lacks_27 : decode cX11_lacks 27 = .ok (.ifCond .le 11, 3) := by decide +kernel
theorem dX11_lacks_30 : decode cX11_lacks 30 = .ok (.iload_n 1, 1) := by decide +kernel
theorem dX11_lacks_31 : decode cX11_lacks 31 = .ok (.aload_n 0, 1) := by decide +kernel
theorem dX11_lacks_32 : decode cX11_lacks 32 = .ok (.iload_n 2, 1) := by decide +kernel
theorem dX11_lacks_33 : decode cX11_lacks 33 = .ok (.invokevirtual 289, 3) := by decide +kernel
theorem dX11_lacks_36 : decode cX11_lacks 36 = .ok (.ior, 1) := by decide +kernel
theorem dX11_lacks_37 : decode cX11_lacks 37 = .ok (.istore_n 1, 1) := by decide +kernel
theorem dX11_lacks_38 : decode cX11_lacks 38 = .ok (.iinc 2 1, 3) := by decide +kernel
theorem dX11_lacks_41 : decode cX11_lacks 41 = .ok (.goto (-37), 3) := by decide +kernel
theorem dX11_lacks_44 : decode cX11_lacks 44 = .ok (.aload_n 0, 1) := by decide +kernel
theorem dX11_lacks_45 : decode cX11_lacks 45 = .ok (.getfield 65, 3) := by decide +kernel
theorem dX11_lacks_48 : decode cX11_lacks 48 = .ok (.invokevirtual 292, 3) := by decide +kernel
theorem dX11_lacks_51 : decode cX11_lacks 51 = .ok (.iload_n 1, 1) := by decide +kernel
theorem dX11_lacks_52 : decode cX11_lacks 52 = .ok (.iconst (-1), 1) := by decide +kernel
theorem dX11_lacks_53 : decode cX11_lacks 53 = .ok (.ixor, 1) := by decide +kernel
theorem dX11_lacks_54 : decode cX11_lacks 54 = .ok (.iand, 1) := by decide +kernel
theorem dX11_lacks_55 : decode cX11_lacks 55 = .ok (.ireturn, 1) := by decide +kernel
theorem dX11_partsOfAll_0 : decode cX11_partsOfAll 0 = .ok (.iconst 0, 1) := by decide +kernel
theorem dX11_partsOfAll_1 : decode cX11_partsOfAll 1 = .ok (.istore_n 2, 1) := by decide +kernel
theorem dX11_partsOfAll_2 : decode cX11_partsOfAll 2 = .ok (.iconst 0, 1) := by decide +kernel
theorem dX11_partsOfAll_3 : decode cX11_partsOfAll 3 = .ok (.istore_n 3, 1) := by decide +kernel
theorem dX11_partsOfAll_4 : decode cX11_partsOfAll 4 = .ok (.iload_n 3, 1) := by decide +kernel
theorem dX11_partsOfAll_5 : decode cX11_partsOfAll 5 = .ok (.aload_n 0, 1) := by decide +kernel
theorem dX11_partsOfAll_6 : decode cX11_partsOfAll 6 = .ok (.getfield 65, 3) := by decide +kernel
theorem dX11_partsOfAll_9 : decode cX11_partsOfAll 9 = .ok (.getfield 111, 3) := by decide +kernel
theorem dX11_partsOfAll_12 : decode cX11_partsOfAll 12 = .ok (.if_icmp .ge 25, 3) := by decide +kernel
theorem dX11_partsOfAll_15 : decode cX11_partsOfAll 15 = .ok (.iload_n 1, 1) := by decide +kernel
theorem dX11_partsOfAll_16 : decode cX11_partsOfAll 16 = .ok (.iload_n 3, 1) := by decide +kernel
theorem dX11_partsOfAll_17 : decode cX11_partsOfAll 17 = .ok (.invokestatic 260, 3) := by decide +kernel
theorem dX11_partsOfAll_20 : decode cX11_partsOfAll 20 = .ok (.ifCond .eq 11, 3) := by decide +kernel
theorem dX11_partsOfAll_23 : decode cX11_partsOfAll 23 = .ok (.iload_n 2, 1) := by decide +kernel
theorem dX11_partsOfAll_24 : decode cX11_partsOfAll 24 = .ok (.aload_n 0, 1) := by decide +kernel
theorem dX11_partsOfAll_25 : decode cX11_partsOfAll 25 = .ok (.iload_n 3, 1) := by decide +kernel
theorem dX11_partsOfAll_26 : decode cX11_partsOfAll 26 = .ok (.invokevirtual 286, 3) := by decide +kernel
theorem dX11_partsOfAll_29 : decode cX11_partsOfAll 29 = .ok (.ior, 1) := by decide +kernel
theorem dX11_partsOfAll_30 : decode cX11_partsOfAll 30 = .ok (.istore_n 2, 1) := by decide +kernel
theorem dX11_partsOfAll_31 : decode cX11_partsOfAll 31 = .ok (.iinc 3 1, 3) := by decide +kernel
theorem dX11_partsOfAll_34 : decode cX11_partsOfAll 34 = .ok (.goto (-30), 3) := by decide +kernel
theorem dX11_partsOfAll_37 : decode cX11_partsOfAll 37 = .ok (.iload_n 2, 1) := by decide +kernel
theorem dX11_partsOfAll_38 : decode cX11_partsOfAll 38 = .ok (.ireturn, 1) := by decide +kernel
theorem dX11_givers_0 : decode cX11_givers 0 = .ok (.aload_n 0, 1) := by decide +kernel
theorem dX11_givers_1 : decode cX11_givers 1 = .ok (.invokevirtual 295, 3) := by decide +kernel
theorem dX11_givers_4 : decode cX11_givers 4 = .ok (.istore_n 1, 1) := by decide +kernel
theorem dX11_givers_5 : decode cX11_givers 5 = .ok (.iconst (-1), 1) := by decide +kernel
theorem dX11_givers_6 : decode cX11_givers 6 = .ok (.istore_n 2, 1) := by decide +kernel
theorem dX11_givers_7 : decode cX11_givers 7 = .ok (.iconst 0, 1) := by decide +kernel
theorem dX11_givers_8 : decode cX11_givers 8 = .ok (.istore_n 3, 1) := by decide +kernel
theorem dX11_givers_9 : decode cX11_givers 9 = .ok (.iload_n 3, 1) := by decide +kernel
theorem dX11_givers_10 : decode cX11_givers 10 = .ok (.iconst 1, 1) := by decide +kernel
theorem dX11_givers_11 : decode cX11_givers 11 = .ok (.aload_n 0, 1) := by decide +kernel
theorem dX11_givers_12 : decode cX11_givers 12 = .ok (.getfield 65, 3) := by decide +kernel
theorem dX11_givers_15 : decode cX11_givers 15 = .ok (.getfield 111, 3) := by decide +kernel
theorem dX11_givers_18 : decode cX11_givers 18 = .ok (.ishl, 1) := by decide +kernel
theorem dX11_givers_19 : decode cX11_givers 19 = .ok (.if_icmp .ge 66, 3) := by decide +kernel
theorem dX11_givers_22 : decode cX11_givers 22 = .ok (.iload_n 2, 1) := by decide +kernel
theorem dX11_givers_23 : decode cX11_givers 23 = .ok (.iconst (-1), 1) := by decide +kernel
theorem dX11_givers_24 : decode cX11_givers 24 = .ok (.if_icmp .eq 14, 3) := by decide +kernel
theorem dX11_givers_27 : decode cX11_givers 27 = .ok (.iload_n 3, 1) := by decide +kernel
theorem dX11_givers_28 : decode cX11_givers 28 = .ok (.invokestatic 277, 3) := by decide +kernel
theorem dX11_givers_31 : decode cX11_givers 31 = .ok (.iload_n 2, 1) := by decide +kernel
theorem dX11_givers_32 : decode cX11_givers 32 = .ok (.invokestatic 277, 3) := by decide +kernel
theorem dX11_givers_35 : decode cX11_givers 35 = .ok (.if_icmp .ge 7, 3) := by decide +kernel
theorem dX11_givers_38 : decode cX11_givers 38 = .ok (.iconst 1, 1) := by decide +kernel
theorem dX11_givers_39 : decode cX11_givers 39 = .ok (.goto 4, 3) := by decide +kernel
theorem dX11_givers_42 : decode cX11_givers 42 = .ok (.iconst 0, 1) := by decide +kernel
theorem dX11_givers_43 : decode cX11_givers 43 = .ok (.istore 4, 2) := by decide +kernel
theorem dX11_givers_45 : decode cX11_givers 45 = .ok (.iload 4, 2) := by decide +kernel
theorem dX11_givers_47 : decode cX11_givers 47 = .ok (.ifCond .eq 32, 3) := by decide +kernel
theorem dX11_givers_50 : decode cX11_givers 50 = .ok (.iload_n 3, 1) := by decide +kernel
theorem dX11_givers_51 : decode cX11_givers 51 = .ok (.aload_n 0, 1) := by decide +kernel
theorem dX11_givers_52 : decode cX11_givers 52 = .ok (.getfield 26, 3) := by decide +kernel
theorem dX11_givers_55 : decode cX11_givers 55 = .ok (.getfield 131, 3) := by decide +kernel
theorem dX11_givers_58 : decode cX11_givers 58 = .ok (.getfield 176, 3) := by decide +kernel
theorem dX11_givers_61 : decode cX11_givers 61 = .ok (.iand, 1) := by decide +kernel
theorem dX11_givers_62 : decode cX11_givers 62 = .ok (.ifCond .ne 17, 3) := by decide +kernel
theorem dX11_givers_65 : decode cX11_givers 65 = .ok (.iload_n 1, 1) := by decide +kernel
theorem dX11_givers_66 : decode cX11_givers 66 = .ok (.aload_n 0, 1) := by decide +kernel
theorem dX11_givers_67 : decode cX11_givers 67 = .ok (.iload_n 3, 1) := by decide +kernel
theorem dX11_givers_68 : decode cX11_givers 68 = .ok (.invokevirtual 298, 3) := by decide +kernel
theorem dX11_givers_71 : decode cX11_givers 71 = .ok (.iconst (-1), 1) := by decide +kernel
theorem dX11_givers_72 : decode cX11_givers 72 = .ok (.ixor, 1) := by decide +kernel
theorem dX11_givers_73 : decode cX11_givers 73 = .ok (.iand, 1) := by decide +kernel
theorem dX11_givers_74 : decode cX11_givers 74 = .ok (.ifCond .ne 5, 3) := by decide +kernel
theorem dX11_givers_77 : decode cX11_givers 77 = .ok (.iload_n 3, 1) := by decide +kernel
theorem dX11_givers_78 : decode cX11_givers 78 = .ok (.istore_n 2, 1) := by decide +kernel
theorem dX11_givers_79 : decode cX11_givers 79 = .ok (.iinc 3 1, 3) := by decide +kernel
theorem dX11_givers_82 : decode cX11_givers 82 = .ok (.goto (-73), 3) := by decide +kernel
theorem dX11_givers_85 : decode cX11_givers 85 = .ok (.iload_n 2, 1) := by decide +kernel
theorem dX11_givers_86 : decode cX11_givers 86 = .ok (.ireturn, 1) := by decide +kernel
theorem dX11_undo_0 : decode cX11_undo 0 = .ok (.aload_n 0, 1) := by decide +kernel
theorem dX11_undo_1 : decode cX11_undo 1 = .ok (.getfield 19, 3) := by decide +kernel
theorem dX11_undo_4 : decode cX11_undo 4 = .ok (.aload_n 0, 1) := by decide +kernel
theorem dX11_undo_5 : decode cX11_undo 5 = .ok (.getfield 26, 3) := by decide +kernel
theorem dX11_undo_8 : decode cX11_undo 8 = .ok (.getfield 131, 3) := by decide +kernel
theorem dX11_undo_11 : decode cX11_undo 11 = .ok (.invokevirtual 217, 3) := by decide +kernel
theorem dX11_undo_14 : decode cX11_undo 14 = .ok (.ireturn, 1) := by decide +kernel
theorem dX11_holders_0 : decode cX11_holders 0 = .ok (.iload_n 1, 1) := by decide +kernel
theorem dX11_holders_1 : decode cX11_holders 1 = .ok (.iconst 1, 1) := by decide +kernel
theorem dX11_holders_2 : decode cX11_holders 2 = .ok (.if_icmp .lt 9, 3) := by decide +kernel
theorem dX11_holders_5 : decode cX11_holders 5 = .ok (.iload_n 1, 1) := by decide +kernel
theorem dX11_holders_6 : decode cX11_holders 6 = .ok (.bipush 6, 2) := by decide +kernel
theorem dX11_holders_8 : decode cX11_holders 8 = .ok (.if_icmp .le 5, 3) := by decide +kernel
theorem dX11_holders_11 : decode cX11_holders 11 = .ok (.iconst (-1), 1) := by decide +kernel
theorem dX11_holders_12 : decode cX11_holders 12 = .ok (.ireturn, 1) := by decide +kernel
theorem dX11_holders_13 : decode cX11_holders 13 = .ok (.iconst 0, 1) := by decide +kernel
theorem dX11_holders_14 : decode cX11_holders 14 = .ok (.istore_n 2, 1) := by decide +kernel
theorem dX11_holders_15 : decode cX11_holders 15 = .ok (.iconst 0, 1) := by decide +kernel
theorem dX11_holders_16 : decode cX11_holders 16 = .ok (.istore_n 3, 1) := by decide +kernel
theorem dX11_holders_17 : decode cX11_holders 17 = .ok (.iload_n 3, 1) := by decide +kernel
theorem dX11_holders_18 : decode cX11_holders 18 = .ok (.aload_n 0, 1) := by decide +kernel
theorem dX11_holders_19 : decode cX11_holders 19 = .ok (.getfield 65, 3) := by decide +kernel
theorem dX11_holders_22 : decode cX11_holders 22 = .ok (.getfield 111, 3) := by decide +kernel
theorem dX11_holders_25 : decode cX11_holders 25 = .ok (.if_icmp .ge 29, 3) := by decide +kernel
theorem dX11_holders_28 : decode cX11_holders 28 = .ok (.aload_n 0, 1) := by decide +kernel
theorem dX11_holders_29 : decode cX11_holders 29 = .ok (.iload_n 3, 1) := by decide +kernel
theorem dX11_holders_30 : decode cX11_holders 30 = .ok (.invokevirtual 286, 3) := by decide +kernel
theorem dX11_holders_33 : decode cX11_holders 33 = .ok (.iload_n 1, 1) := by decide +kernel
theorem dX11_holders_34 : decode cX11_holders 34 = .ok (.iconst 1, 1) := by decide +kernel
theorem dX11_holders_35 : decode cX11_holders 35 = .ok (.isub, 1) := by decide +kernel
theorem dX11_holders_36 : decode cX11_holders 36 = .ok (.invokestatic 260, 3) := by decide +kernel
theorem dX11_holders_39 : decode cX11_holders 39 = .ok (.ifCond .eq 9, 3) := by decide +kernel
theorem dX11_holders_42 : decode cX11_holders 42 = .ok (.iload_n 2, 1) := by decide +kernel
theorem dX11_holders_43 : decode cX11_holders 43 = .ok (.iconst 1, 1) := by decide +kernel
theorem dX11_holders_44 : decode cX11_holders 44 = .ok (.iload_n 3, 1) := by decide +kernel
theorem dX11_holders_45 : decode cX11_holders 45 = .ok (.ishl, 1) := by decide +kernel
theorem dX11_holders_46 : decode cX11_holders 46 = .ok (.ior, 1) := by decide +kernel
theorem dX11_holders_47 : decode cX11_holders 47 = .ok (.istore_n 2, 1) := by decide +kernel
theorem dX11_holders_48 : decode cX11_holders 48 = .ok (.iinc 3 1, 3) := by decide +kernel
theorem dX11_holders_51 : decode cX11_holders 51 = .ok (.goto (-34), 3) := by decide +kernel
theorem dX11_holders_54 : decode cX11_holders 54 = .ok (.iload_n 2, 1) := by decide +kernel
theorem dX11_holders_55 : decode cX11_holders 55 = .ok (.ireturn, 1) := by decide +kernel
theorem dX4_pairFrom_0 : decode cX4_pairFrom 0 = .ok (.iload_n 1, 1) := by decide +kernel
theorem dX4_pairFrom_1 : decode cX4_pairFrom 1 = .ok (.aload_n 0, 1) := by decide +kernel
theorem dX4_pairFrom_2 : decode cX4_pairFrom 2 = .ok (.getfield 27, 3) := by decide +kernel
theorem dX4_pairFrom_5 : decode cX4_pairFrom 5 = .ok (.if_icmp .lt 31, 3) := by decide +kernel
theorem dX4_pairFrom_8 : decode cX4_pairFrom 8 = .ok (.iload_n 3, 1) := by decide +kernel
theorem dX4_pairFrom_9 : decode cX4_pairFrom 9 = .ok (.aload_n 0, 1) := by decide +kernel
theorem dX4_pairFrom_10 : decode cX4_pairFrom 10 = .ok (.getfield 34, 3) := by decide +kernel
theorem dX4_pairFrom_13 : decode cX4_pairFrom 13 = .ok (.if_icmp .le 22, 3) := by decide +kernel
theorem dX4_pairFrom_16 : decode cX4_pairFrom 16 = .ok (.aload_n 0, 1) := by decide +kernel
theorem dX4_pairFrom_17 : decode cX4_pairFrom 17 = .ok (.iload_n 3, 1) := by decide +kernel
theorem dX4_pairFrom_18 : decode cX4_pairFrom 18 = .ok (.putfield 34, 3) := by decide +kernel
theorem dX4_pairFrom_21 : decode cX4_pairFrom 21 = .ok (.aload_n 0, 1) := by decide +kernel
theorem dX4_pairFrom_22 : decode cX4_pairFrom 22 = .ok (.getfield 15, 3) := by decide +kernel
theorem dX4_pairFrom_25 : decode cX4_pairFrom 25 = .ok (.iconst 0, 1) := by decide +kernel
theorem dX4_pairFrom_26 : decode cX4_pairFrom 26 = .ok (.aload_n 0, 1) := by decide +kernel
theorem dX4_pairFrom_27 : decode cX4_pairFrom 27 = .ok (.getfield 9, 3) := by decide +kernel
theorem dX4_pairFrom_30 : decode cX4_pairFrom 30 = .ok (.iconst 0, 1) := by decide +kernel
theorem dX4_pairFrom_31 : decode cX4_pairFrom 31 = .ok (.iconst 5, 1) := by decide +kernel
theorem dX4_pairFrom_32 : decode cX4_pairFrom 32 = .ok (.invokestatic 41, 3) := by decide +kernel
theorem dX4_pairFrom_35 : decode cX4_pairFrom 35 = .ok (.return_, 1) := by decide +kernel
theorem dX4_pairFrom_36 : decode cX4_pairFrom 36 = .ok (.iload_n 2, 1) := by decide +kernel
theorem dX4_pairFrom_37 : decode cX4_pairFrom 37 = .ok (.iload_n 1, 1) := by decide +kernel
theorem dX4_pairFrom_38 : decode cX4_pairFrom 38 = .ok (.invokestatic 47, 3) := by decide +kernel
theorem dX4_pairFrom_41 : decode cX4_pairFrom 41 = .ok (.ifCond .eq 13, 3) := by decide +kernel
theorem dX4_pairFrom_44 : decode cX4_pairFrom 44 = .ok (.aload_n 0, 1) := by decide +kernel
theorem dX4_pairFrom_45 : decode cX4_pairFrom 45 = .ok (.iload_n 1, 1) := by decide +kernel
theorem dX4_pairFrom_46 : decode cX4_pairFrom 46 = .ok (.iconst 1, 1) := by decide +kernel
theorem dX4_pairFrom_47 : decode cX4_pairFrom 47 = .ok (.iadd, 1) := by decide +kernel
theorem dX4_pairFrom_48 : decode cX4_pairFrom 48 = .ok (.iload_n 2, 1) := by decide +kernel
theorem dX4_pairFrom_49 : decode cX4_pairFrom 49 = .ok (.iload_n 3, 1) := by decide +kernel
theorem dX4_pairFrom_50 : decode cX4_pairFrom 50 = .ok (.invokevirtual 37, 3) := by decide +kernel
theorem dX4_pairFrom_53 : decode cX4_pairFrom 53 = .ok (.return_, 1) := by decide +kernel
theorem dX4_pairFrom_54 : decode cX4_pairFrom 54 = .ok (.aload_n 0, 1) := by decide +kernel
theorem dX4_pairFrom_55 : decode cX4_pairFrom 55 = .ok (.getfield 15, 3) := by decide +kernel
theorem dX4_pairFrom_58 : decode cX4_pairFrom 58 = .ok (.iload_n 1, 1) := by decide +kernel
theorem dX4_pairFrom_59 : decode cX4_pairFrom 59 = .ok (.iload_n 1, 1) := by decide +kernel
theorem dX4_pairFrom_60 : decode cX4_pairFrom 60 = .ok (.iastore, 1) := by decide +kernel
theorem dX4_pairFrom_61 : decode cX4_pairFrom 61 = .ok (.aload_n 0, 1) := by decide +kernel
theorem dX4_pairFrom_62 : decode cX4_pairFrom 62 = .ok (.iload_n 1, 1) := by decide +kernel
theorem dX4_pairFrom_63 : decode cX4_pairFrom 63 = .ok (.iconst 1, 1) := by decide +kernel
theorem dX4_pairFrom_64 : decode cX4_pairFrom 64 = .ok (.iadd, 1) := by decide +kernel
theorem dX4_pairFrom_65 : decode cX4_pairFrom 65 = .ok (.iload_n 2, 1) := by decide +kernel
theorem dX4_pairFrom_66 : decode cX4_pairFrom 66 = .ok (.iload_n 3, 1) := by decide +kernel
theorem dX4_pairFrom_67 : decode cX4_pairFrom 67 = .ok (.invokevirtual 37, 3) := by decide +kernel
theorem dX4_pairFrom_70 : decode cX4_pairFrom 70 = .ok (.iload_n 1, 1) := by decide +kernel
theorem dX4_pairFrom_71 : decode cX4_pairFrom 71 = .ok (.iconst 1, 1) := by decide +kernel
theorem dX4_pairFrom_72 : decode cX4_pairFrom 72 = .ok (.iadd, 1) := by decide +kernel
theorem dX4_pairFrom_73 : decode cX4_pairFrom 73 = .ok (.istore 4, 2) := by decide +kernel
theorem dX4_pairFrom_75 : decode cX4_pairFrom 75 = .ok (.iload 4, 2) := by decide +kernel
theorem dX4_pairFrom_77 : decode cX4_pairFrom 77 = .ok (.aload_n 0, 1) := by decide +kernel
theorem dX4_pairFrom_78 : decode cX4_pairFrom 78 = .ok (.getfield 27, 3) := by decide +kernel
theorem dX4_pairFrom_81 : decode cX4_pairFrom 81 = .ok (.if_icmp .ge 63, 3) := by decide +kernel
theorem dX4_pairFrom_84 : decode cX4_pairFrom 84 = .ok (.iload_n 2, 1) := by decide +kernel
theorem dX4_pairFrom_85 : decode cX4_pairFrom 85 = .ok (.iload 4, 2) := by decide +kernel
theorem dX4_pairFrom_87 : decode cX4_pairFrom 87 = .ok (.invokestatic 47, 3) := by decide +kernel
theorem dX4_pairFrom_90 : decode cX4_pairFrom 90 = .ok (.ifCond .ne 48, 3) := by decide +kernel
theorem dX4_pairFrom_93 : decode cX4_pairFrom 93 = .ok (.aload_n 0, 1) := by decide +kernel
theorem dX4_pairFrom_94 : decode cX4_pairFrom 94 = .ok (.getfield 15, 3) := by decide +kernel
theorem dX4_pairFrom_97 : decode cX4_pairFrom 97 = .ok (.iload_n 1, 1) := by decide +kernel
theorem dX4_pairFrom_98 : decode cX4_pairFrom 98 = .ok (.iload 4, 2) := by decide +kernel
theorem dX4_pairFrom_100 : decode cX4_pairFrom 100 = .ok (.iastore, 1) := by decide +kernel
theorem dX4_pairFrom_101 : decode cX4_pairFrom 101 = .ok (.aload_n 0, 1) := by decide +kernel
theorem dX4_pairFrom_102 : decode cX4_pairFrom 102 = .ok (.getfield 15, 3) := by decide +kernel
theorem dX4_pairFrom_105 : decode cX4_pairFrom 105 = .ok (.iload 4, 2) := by decide +kernel
theorem dX4_pairFrom_107 : decode cX4_pairFrom 107 = .ok (.iload_n 1, 1) := by decide +kernel
theorem dX4_pairFrom_108 : decode cX4_pairFrom 108 = .ok (.iastore, 1) := by decide +kernel
theorem dX4_pairFrom_109 : decode cX4_pairFrom 109 = .ok (.aload_n 0, 1) := by decide +kernel
theorem dX4_pairFrom_110 : decode cX4_pairFrom 110 = .ok (.iload_n 1, 1) := by decide +kernel
theorem dX4_pairFrom_111 : decode cX4_pairFrom 111 = .ok (.iconst 1, 1) := by decide +kernel
theorem dX4_pairFrom_112 : decode cX4_pairFrom 112 = .ok (.iadd, 1) := by decide +kernel
theorem dX4_pairFrom_113 : decode cX4_pairFrom 113 = .ok (.iload_n 2, 1) := by decide +kernel
theorem dX4_pairFrom_114 : decode cX4_pairFrom 114 = .ok (.iconst 1, 1) := by decide +kernel
theorem dX4_pairFrom_115 : decode cX4_pairFrom 115 = .ok (.iload 4, 2) := by decide +kernel
theorem dX4_pairFrom_117 : decode cX4_pairFrom 117 = .ok (.ishl, 1) := by decide +kernel
theorem dX4_pairFrom_118 : decode cX4_pairFrom 118 = .ok (.ior, 1) := by decide +kernel
theorem dX4_pairFrom_119 : decode cX4_pairFrom 119 = .ok (.iload_n 3, 1) := by decide +kernel
theorem dX4_pairFrom_120 : decode cX4_pairFrom 120 = .ok (.aload_n 0, 1) := by decide +kernel
theorem dX4_pairFrom_121 : decode cX4_pairFrom 121 = .ok (.getfield 18, 3) := by decide +kernel
theorem dX4_pairFrom_124 : decode cX4_pairFrom 124 = .ok (.iload_n 1, 1) := by decide +kernel
theorem dX4_pairFrom_125 : decode cX4_pairFrom 125 = .ok (.iaload, 1) := by decide +kernel
theorem dX4_pairFrom_126 : decode cX4_pairFrom 126 = .ok (.aload_n 0, 1) := by decide +kernel
theorem dX4_pairFrom_127 : decode cX4_pairFrom 127 = .ok (.getfield 18, 3) := by decide +kernel
theorem dX4_pairFrom_130 : decode cX4_pairFrom 130 = .ok (.iload 4, 2) := by decide +kernel
theorem dX4_pairFrom_132 : decode cX4_pairFrom 132 = .ok (.iaload, 1) := by decide +kernel
theorem dX4_pairFrom_133 : decode cX4_pairFrom 133 = .ok (.imul, 1) := by decide +kernel
theorem dX4_pairFrom_134 : decode cX4_pairFrom 134 = .ok (.iadd, 1) := by decide +kernel
theorem dX4_pairFrom_135 : decode cX4_pairFrom 135 = .ok (.invokevirtual 37, 3) := by decide +kernel
theorem dX4_pairFrom_138 : decode cX4_pairFrom 138 = .ok (.iinc 4 1, 3) := by decide +kernel
theorem dX4_pairFrom_141 : decode cX4_pairFrom 141 = .ok (.goto (-66), 3) := by decide +kernel
theorem dX4_pairFrom_144 : decode cX4_pairFrom 144 = .ok (.return_, 1) := by decide +kernel
theorem dX4_find_0 : decode cX4_find 0 = .ok (.aload_n 0, 1) := by decide +kernel
theorem dX4_find_1 : decode cX4_find 1 = .ok (.aload_n 1, 1) := by decide +kernel
theorem dX4_find_2 : decode cX4_find 2 = .ok (.getfield 21, 3) := by decide +kernel
theorem dX4_find_5 : decode cX4_find 5 = .ok (.putfield 27, 3) := by decide +kernel
theorem dX4_find_8 : decode cX4_find 8 = .ok (.iconst 0, 1) := by decide +kernel
theorem dX4_find_9 : decode cX4_find 9 = .ok (.istore_n 3, 1) := by decide +kernel
theorem dX4_find_10 : decode cX4_find 10 = .ok (.iload_n 3, 1) := by decide +kernel
theorem dX4_find_11 : decode cX4_find 11 = .ok (.aload_n 0, 1) := by decide +kernel
theorem dX4_find_12 : decode cX4_find 12 = .ok (.getfield 27, 3) := by decide +kernel
theorem dX4_find_15 : decode cX4_find 15 = .ok (.if_icmp .ge 21, 3) := by decide +kernel
theorem dX4_find_18 : decode cX4_find 18 = .ok (.aload_n 0, 1) := by decide +kernel
theorem dX4_find_19 : decode cX4_find 19 = .ok (.getfield 18, 3) := by decide +kernel
theorem dX4_find_22 : decode cX4_find 22 = .ok (.iload_n 3, 1) := by decide +kernel
theorem dX4_find_23 : decode cX4_find 23 = .ok (.aload_n 2, 1) := by decide +kernel
theorem dX4_find_24 : decode cX4_find 24 = .ok (.aload_n 1, 1) := by decide +kernel
theorem dX4_find_25 : decode cX4_find 25 = .ok (.iload_n 3, 1) := by decide +kernel
theorem dX4_find_26 : decode cX4_find 26 = .ok (.invokevirtual 28, 3) := by decide +kernel
theorem dX4_find_29 : decode cX4_find 29 = .ok (.iastore, 1) := by decide +kernel
theorem dX4_find_30 : decode cX4_find 30 = .ok (.iinc 3 1, 3) := by decide +kernel
theorem dX4_find_33 : decode cX4_find 33 = .ok (.goto (-23), 3) := by decide +kernel
theorem dX4_find_36 : decode cX4_find 36 = .ok (.aload_n 0, 1) := by decide +kernel
theorem dX4_find_37 : decode cX4_find 37 = .ok (.iconst (-1), 1) := by decide +kernel
theorem dX4_find_38 : decode cX4_find 38 = .ok (.putfield 34, 3) := by decide +kernel
theorem dX4_find_41 : decode cX4_find 41 = .ok (.aload_n 0, 1) := by decide +kernel
theorem dX4_find_42 : decode cX4_find 42 = .ok (.iconst 0, 1) := by decide +kernel
theorem dX4_find_43 : decode cX4_find 43 = .ok (.iconst 0, 1) := by decide +kernel
theorem dX4_find_44 : decode cX4_find 44 = .ok (.iconst 0, 1) := by decide +kernel
theorem dX4_find_45 : decode cX4_find 45 = .ok (.invokevirtual 37, 3) := by decide +kernel
theorem dX4_find_48 : decode cX4_find 48 = .ok (.return_, 1) := by decide +kernel
set_option maxHeartbeats 4000000 in
set_option maxRecDepth 100000 in
theorem c_X11_isThought (γ : kΓ) (l : Launch) (x : Nat) (x0 : Nat) (x1 : Nat) (x2 : Nat) (x3 : Nat) (x4 : Nat) (x5 : Nat) (x6 : Nat) (x7 : Nat) (x8 : Nat) (x9 : Nat) (x10 : Nat) (x90 : Nat) (x91 : Nat) (x92 : Nat) (x93 : Nat) (x94 : Nat) (x95 : Nat) (x96 : Nat) (x97 : Nat) (t : Int32) : kM γ l yX11_isThought cX11_isThought 2 ((some .boolean)) ({ frames := 0, cells := 0, slots := 0, locals := 0 } : Room) [.ref x, .int t] [(x, .inr (10, [.ref x0, .ref x1, .ref x2, .ref x3, .ref x4, .ref x5, .ref x6, .ref x7, .ref x8, .ref x9, .ref x10])), (x9, .inr (0, [.ref x90, .ref x91, .ref x92, .ref x93, .ref x94, .ref x95, .ref x96, .ref x97, .int 0, .int 0, .int 10, .int 10, .int 3, .int 0, .int 0, .int 0, .int 0, .int 0, .int 0]))] (fun r w1 => r = some (.int 0) ∧ w1 = [(x, .inr (10, [.ref x0, .ref x1, .ref x2, .ref x3, .ref x4, .ref x5, .ref x6, .ref x7, .ref x8, .ref x9, .ref x10])), (x9, .inr (0, [.ref x90, .ref x91, .ref x92, .ref x93, .ref x94, .ref x95, .ref x96, .ref x97, .int 0, .int 0, .int 10, .int 10, .int 3, .int 0, .int 0, .int 0, .int 0, .int 0, .int 0]))]) := by
  refine k_ofW (by decide) (Nat.le_of_ble_eq_true rfl) ?_
  intro p e s m below meth c A ls hC hr hlocks hname hw hl
  have hx := hC.1
  have hb := hC.2.1
  have hl : lv_has ls 2 [(0, .ref x), (1, .int t)] := hl
  refine lv_iload_n hx hb dX11_isThought_0 rfl (lv_at hl 1 rfl) ?_
  refine lv_if_lt (tgt := 19) hx hb dX11_isThought_1 (by decide) (fun c1 => ?_) (fun c1 => ?_)
  · refine lv_iconst (v := 0) hx hb dX11_isThought_19 (by decide) ?_
    exact k_zret hC hr hlocks rfl hw [0, 1] rfl rfl ⟨rfl, rfl⟩ (by decide) (by decide) dX11_isThought_20
  · refine lv_iload_n hx hb dX11_isThought_4 rfl (lv_at hl 1 rfl) ?_
    refine lv_aload_n hx hb dX11_isThought_5 rfl (lv_at hl 0 rfl) ?_
    refine fg_RX11_65 hC hw 0 rfl rfl dX11_isThought_6 ?_
    refine fg_RX11_108 hC hw 1 rfl rfl dX11_isThought_9 ?_
    refine lv_icmp_ge (tgt := 19) hx hb dX11_isThought_12 (by decide) (fun _ => ?_) (fun h => absurd (Int32.not_lt.mp c1) h)
    refine lv_iconst (v := 0) hx hb dX11_isThought_19 (by decide) ?_
    exact k_zret hC hr hlocks rfl hw [0, 1] rfl rfl ⟨rfl, rfl⟩ (by decide) (by decide) dX11_isThought_20

set_option maxHeartbeats 4000000 in
set_option maxRecDepth 100000 in
theorem c_X11_isTenant (γ : kΓ) (l : Launch) (x : Nat) (x0 : Nat) (x1 : Nat) (x2 : Nat) (x3 : Nat) (x4 : Nat) (x5 : Nat) (x6 : Nat) (x7 : Nat) (x8 : Nat) (x9 : Nat) (x10 : Nat) (x90 : Nat) (x91 : Nat) (x92 : Nat) (x93 : Nat) (x94 : Nat) (x95 : Nat) (x96 : Nat) (x97 : Nat) (t : Int32) : kM γ l yX11_isTenant cX11_isTenant 2 ((some .boolean)) ({ frames := 0, cells := 0, slots := 0, locals := 0 } : Room) [.ref x, .int t] [(x, .inr (10, [.ref x0, .ref x1, .ref x2, .ref x3, .ref x4, .ref x5, .ref x6, .ref x7, .ref x8, .ref x9, .ref x10])), (x9, .inr (0, [.ref x90, .ref x91, .ref x92, .ref x93, .ref x94, .ref x95, .ref x96, .ref x97, .int 0, .int 0, .int 10, .int 10, .int 3, .int 0, .int 0, .int 0, .int 0, .int 0, .int 0]))] (fun r w1 => r = some (.int 0) ∧ w1 = [(x, .inr (10, [.ref x0, .ref x1, .ref x2, .ref x3, .ref x4, .ref x5, .ref x6, .ref x7, .ref x8, .ref x9, .ref x10])), (x9, .inr (0, [.ref x90, .ref x91, .ref x92, .ref x93, .ref x94, .ref x95, .ref x96, .ref x97, .int 0, .int 0, .int 10, .int 10, .int 3, .int 0, .int 0, .int 0, .int 0, .int 0, .int 0]))]) := by
  refine k_ofW (by decide) (Nat.le_of_ble_eq_true rfl) ?_
  intro p e s m below meth c A ls hC hr hlocks hname hw hl
  have hx := hC.1
  have hb := hC.2.1
  have hl : lv_has ls 2 [(0, .ref x), (1, .int t)] := hl
  refine lv_iload_n hx hb dX11_isTenant_0 rfl (lv_at hl 1 rfl) ?_
  refine lv_if_lt (tgt := 19) hx hb dX11_isTenant_1 (by decide) (fun c1 => ?_) (fun c1 => ?_)
  · refine lv_iconst (v := 0) hx hb dX11_isTenant_19 (by decide) ?_
    exact k_zret hC hr hlocks rfl hw [0, 1] rfl rfl ⟨rfl, rfl⟩ (by decide) (by decide) dX11_isTenant_20
  · refine lv_iload_n hx hb dX11_isTenant_4 rfl (lv_at hl 1 rfl) ?_
    refine lv_aload_n hx hb dX11_isTenant_5 rfl (lv_at hl 0 rfl) ?_
    refine fg_RX11_65 hC hw 0 rfl rfl dX11_isTenant_6 ?_
    refine fg_RX11_111 hC hw 1 rfl rfl dX11_isTenant_9 ?_
    refine lv_icmp_ge (tgt := 19) hx hb dX11_isTenant_12 (by decide) (fun _ => ?_) (fun h => absurd (Int32.not_lt.mp c1) h)
    refine lv_iconst (v := 0) hx hb dX11_isTenant_19 (by decide) ?_
    exact k_zret hC hr hlocks rfl hw [0, 1] rfl rfl ⟨rfl, rfl⟩ (by decide) (by decide) dX11_isTenant_20

set_option maxHeartbeats 4000000 in
set_option maxRecDepth 100000 in
theorem c_X11_areBoth (γ : kΓ) (l : Launch) (x : Nat) (x0 : Nat) (x1 : Nat) (x2 : Nat) (x3 : Nat) (x4 : Nat) (x5 : Nat) (x6 : Nat) (x7 : Nat) (x8 : Nat) (x9 : Nat) (x10 : Nat) (x90 : Nat) (x91 : Nat) (x92 : Nat) (x93 : Nat) (x94 : Nat) (x95 : Nat) (x96 : Nat) (x97 : Nat) (t : Int32) (u : Int32) : kM γ l yX11_areBoth cX11_areBoth 3 ((some .boolean)) ({ frames := 1, cells := 0, slots := 0, locals := 21 } : Room) [.ref x, .int t, .int u] [(x, .inr (10, [.ref x0, .ref x1, .ref x2, .ref x3, .ref x4, .ref x5, .ref x6, .ref x7, .ref x8, .ref x9, .ref x10])), (x9, .inr (0, [.ref x90, .ref x91, .ref x92, .ref x93, .ref x94, .ref x95, .ref x96, .ref x97, .int 0, .int 0, .int 10, .int 10, .int 3, .int 0, .int 0, .int 0, .int 0, .int 0, .int 0]))] (fun r w1 => r = some (.int 0) ∧ w1 = [(x, .inr (10, [.ref x0, .ref x1, .ref x2, .ref x3, .ref x4, .ref x5, .ref x6, .ref x7, .ref x8, .ref x9, .ref x10])), (x9, .inr (0, [.ref x90, .ref x91, .ref x92, .ref x93, .ref x94, .ref x95, .ref x96, .ref x97, .int 0, .int 0, .int 10, .int 10, .int 3, .int 0, .int 0, .int 0, .int 0, .int 0, .int 0]))]) := by
  refine k_ofW (by decide) (Nat.le_of_ble_eq_true rfl) ?_
  intro p e s m below meth c A ls hC hr hlocks hname hw hl
  have hx := hC.1
  have hb := hC.2.1
  have hl : lv_has ls 3 [(0, .ref x), (1, .int t), (2, .int u)] := hl
  refine lv_aload_n hx hb dX11_areBoth_0 rfl (lv_at hl 0 rfl) ?_
  refine lv_iload_n hx hb dX11_areBoth_1 rfl (lv_at hl 1 rfl) ?_
  refine k_V (wr := []) 1 gw_705 gw_707 gp_25 gw_1 gw_708 hd_X11_isTenant hC hw (c_X11_isTenant γ l x x0 x1 x2 x3 x4 x5 x6 x7 x8 x9 x10 x90 x91 x92 x93 x94 x95 x96 x97 t) ⟨by decide, by decide⟩ ⟨by decide, by decide⟩ hl.1 rfl 0 rfl rfl rfl (Nat.le_of_ble_eq_true rfl) [0, 1] [] rfl rfl rfl rfl (by decide) dX11_areBoth_2 (fun r w1 H locs hq hw => ?_)
  obtain ⟨rfl, rfl⟩ := hq
  have hw : kW γ A [(x, .inr (10, [.ref x0, .ref x1, .ref x2, .ref x3, .ref x4, .ref x5, .ref x6, .ref x7, .ref x8, .ref x9, .ref x10])), (x9, .inr (0, [.ref x90, .ref x91, .ref x92, .ref x93, .ref x94, .ref x95, .ref x96, .ref x97, .int 0, .int 0, .int 10, .int 10, .int 3, .int 0, .int 0, .int 0, .int 0, .int 0, .int 0]))] s H locs := hw
  refine W.eq (g2 := F0 m 5 ls [.int 0]) rfl ?_
  refine lv_if_eq (tgt := 20) hx hb dX11_areBoth_5 (by decide) (fun _ => ?_) (fun h => absurd (by decide) h)
  refine lv_iconst (v := 0) hx hb dX11_areBoth_20 (by decide) ?_
  exact k_zret hC hr hlocks rfl hw [0, 1] rfl rfl ⟨rfl, rfl⟩ (by decide) (by decide) dX11_areBoth_21

set_option maxHeartbeats 4000000 in
set_option maxRecDepth 100000 in
theorem c_X11_thought (γ : kΓ) (l : Launch) (x : Nat) (x0 : Nat) (x1 : Nat) (x2 : Nat) (x3 : Nat) (x4 : Nat) (x5 : Nat) (x6 : Nat) (x7 : Nat) (x8 : Nat) (x9 : Nat) (x10 : Nat) (x90 : Nat) (x91 : Nat) (x92 : Nat) (x93 : Nat) (x94 : Nat) (x95 : Nat) (x96 : Nat) (x97 : Nat) (t : Int32) (u : Int32) : kM γ l yX11_thought cX11_thought 3 ((some .int)) ({ frames := 1, cells := 0, slots := 0, locals := 21 } : Room) [.ref x, .int t, .int u] [(x, .inr (10, [.ref x0, .ref x1, .ref x2, .ref x3, .ref x4, .ref x5, .ref x6, .ref x7, .ref x8, .ref x9, .ref x10])), (x9, .inr (0, [.ref x90, .ref x91, .ref x92, .ref x93, .ref x94, .ref x95, .ref x96, .ref x97, .int 0, .int 0, .int 10, .int 10, .int 3, .int 0, .int 0, .int 0, .int 0, .int 0, .int 0]))] (fun r w1 => r = some (.int (-1)) ∧ w1 = []) := by
  refine k_ofW (by decide) (Nat.le_of_ble_eq_true rfl) ?_
  intro p e s m below meth c A ls hC hr hlocks hname hw hl
  have hx := hC.1
  have hb := hC.2.1
  have hl : lv_has ls 3 [(0, .ref x), (1, .int t), (2, .int u)] := hl
  refine lv_aload_n hx hb dX11_thought_0 rfl (lv_at hl 0 rfl) ?_
  refine lv_iload_n hx hb dX11_thought_1 rfl (lv_at hl 1 rfl) ?_
  refine k_V (wr := []) 1 gw_697 gw_699 gp_24 gw_1 gw_700 hd_X11_isThought hC hw (c_X11_isThought γ l x x0 x1 x2 x3 x4 x5 x6 x7 x8 x9 x10 x90 x91 x92 x93 x94 x95 x96 x97 t) ⟨by decide, by decide⟩ ⟨by decide, by decide⟩ hl.1 rfl 0 rfl rfl rfl (Nat.le_of_ble_eq_true rfl) [0, 1] [] rfl rfl rfl rfl (by decide) dX11_thought_2 (fun r w1 H locs hq hw => ?_)
  obtain ⟨rfl, rfl⟩ := hq
  have hw : kW γ A [(x, .inr (10, [.ref x0, .ref x1, .ref x2, .ref x3, .ref x4, .ref x5, .ref x6, .ref x7, .ref x8, .ref x9, .ref x10])), (x9, .inr (0, [.ref x90, .ref x91, .ref x92, .ref x93, .ref x94, .ref x95, .ref x96, .ref x97, .int 0, .int 0, .int 10, .int 10, .int 3, .int 0, .int 0, .int 0, .int 0, .int 0, .int 0]))] s H locs := hw
  refine W.eq (g2 := F0 m 5 ls [.int 0]) rfl ?_
  refine lv_if_ne (tgt := 10) hx hb dX11_thought_5 (by decide) (fun h => absurd rfl h) (fun _ => ?_)
  refine lv_iconst (v := (-1)) hx hb dX11_thought_8 (by decide) ?_
  exact k_iret hC hr hlocks hw [] rfl rfl ⟨rfl, rfl⟩ (by decide) (by decide) dX11_thought_9

set_option maxHeartbeats 4000000 in
set_option maxRecDepth 100000 in
theorem c_X11_tenant (γ : kΓ) (l : Launch) (x : Nat) (x0 : Nat) (x1 : Nat) (x2 : Nat) (x3 : Nat) (x4 : Nat) (x5 : Nat) (x6 : Nat) (x7 : Nat) (x8 : Nat) (x9 : Nat) (x10 : Nat) (x90 : Nat) (x91 : Nat) (x92 : Nat) (x93 : Nat) (x94 : Nat) (x95 : Nat) (x96 : Nat) (x97 : Nat) (t : Int32) (u : Int32) : kM γ l yX11_tenant cX11_tenant 4 ((some .int)) ({ frames := 1, cells := 0, slots := 0, locals := 21 } : Room) [.ref x, .int t, .int u] [(x, .inr (10, [.ref x0, .ref x1, .ref x2, .ref x3, .ref x4, .ref x5, .ref x6, .ref x7, .ref x8, .ref x9, .ref x10])), (x9, .inr (0, [.ref x90, .ref x91, .ref x92, .ref x93, .ref x94, .ref x95, .ref x96, .ref x97, .int 0, .int 0, .int 10, .int 10, .int 3, .int 0, .int 0, .int 0, .int 0, .int 0, .int 0]))] (fun r w1 => r = some (.int (-1000)) ∧ w1 = []) := by
  refine k_ofW (by decide) (Nat.le_of_ble_eq_true rfl) ?_
  intro p e s m below meth c A ls hC hr hlocks hname hw hl
  have hx := hC.1
  have hb := hC.2.1
  have hl : lv_has ls 4 [(0, .ref x), (1, .int t), (2, .int u)] := hl
  refine lv_aload_n hx hb dX11_tenant_0 rfl (lv_at hl 0 rfl) ?_
  refine lv_iload_n hx hb dX11_tenant_1 rfl (lv_at hl 1 rfl) ?_
  refine k_V (wr := []) 1 gw_705 gw_707 gp_25 gw_1 gw_708 hd_X11_isTenant hC hw (c_X11_isTenant γ l x x0 x1 x2 x3 x4 x5 x6 x7 x8 x9 x10 x90 x91 x92 x93 x94 x95 x96 x97 t) ⟨by decide, by decide⟩ ⟨by decide, by decide⟩ hl.1 rfl 0 rfl rfl rfl (Nat.le_of_ble_eq_true rfl) [0, 1] [] rfl rfl rfl rfl (by decide) dX11_tenant_2 (fun r w1 H locs hq hw => ?_)
  obtain ⟨rfl, rfl⟩ := hq
  have hw : kW γ A [(x, .inr (10, [.ref x0, .ref x1, .ref x2, .ref x3, .ref x4, .ref x5, .ref x6, .ref x7, .ref x8, .ref x9, .ref x10])), (x9, .inr (0, [.ref x90, .ref x91, .ref x92, .ref x93, .ref x94, .ref x95, .ref x96, .ref x97, .int 0, .int 0, .int 10, .int 10, .int 3, .int 0, .int 0, .int 0, .int 0, .int 0, .int 0]))] s H locs := hw
  refine W.eq (g2 := F0 m 5 ls [.int 0]) rfl ?_
  refine lv_if_ne (tgt := 12) hx hb dX11_tenant_5 (by decide) (fun h => absurd rfl h) (fun _ => ?_)
  refine lv_sipush (v := (-1000)) hx hb dX11_tenant_8 (by decide) ?_
  exact k_iret hC hr hlocks hw [] rfl rfl ⟨rfl, rfl⟩ (by decide) (by decide) dX11_tenant_11

set_option maxHeartbeats 4000000 in
set_option maxRecDepth 100000 in
theorem c_X11_keeps (γ : kΓ) (l : Launch) (x : Nat) (x0 : Nat) (x1 : Nat) (x2 : Nat) (x3 : Nat) (x4 : Nat) (x5 : Nat) (x6 : Nat) (x7 : Nat) (x8 : Nat) (x9 : Nat) (x10 : Nat) (x90 : Nat) (x91 : Nat) (x92 : Nat) (x93 : Nat) (x94 : Nat) (x95 : Nat) (x96 : Nat) (x97 : Nat) (t : Int32) (u : Int32) : kM γ l yX11_keeps cX11_keeps 3 ((some .int)) ({ frames := 2, cells := 0, slots := 0, locals := 43 } : Room) [.ref x, .int t, .int u] [(x, .inr (10, [.ref x0, .ref x1, .ref x2, .ref x3, .ref x4, .ref x5, .ref x6, .ref x7, .ref x8, .ref x9, .ref x10])), (x9, .inr (0, [.ref x90, .ref x91, .ref x92, .ref x93, .ref x94, .ref x95, .ref x96, .ref x97, .int 0, .int 0, .int 10, .int 10, .int 3, .int 0, .int 0, .int 0, .int 0, .int 0, .int 0]))] (fun r w1 => r = some (.int (-1)) ∧ w1 = []) := by
  refine k_ofW (by decide) (Nat.le_of_ble_eq_true rfl) ?_
  intro p e s m below meth c A ls hC hr hlocks hname hw hl
  have hx := hC.1
  have hb := hC.2.1
  have hl : lv_has ls 3 [(0, .ref x), (1, .int t), (2, .int u)] := hl
  refine lv_aload_n hx hb dX11_keeps_0 rfl (lv_at hl 0 rfl) ?_
  refine lv_iload_n hx hb dX11_keeps_1 rfl (lv_at hl 1 rfl) ?_
  refine lv_iload_n hx hb dX11_keeps_2 rfl (lv_at hl 2 rfl) ?_
  refine k_V (wr := []) 2 gw_731 gw_733 gp_26 gw_1 gw_734 hd_X11_areBoth hC hw (c_X11_areBoth γ l x x0 x1 x2 x3 x4 x5 x6 x7 x8 x9 x10 x90 x91 x92 x93 x94 x95 x96 x97 t u) ⟨by decide, by decide⟩ ⟨by decide, by decide⟩ hl.1 rfl 0 rfl rfl rfl (Nat.le_of_ble_eq_true rfl) [0, 1] [] rfl rfl rfl rfl (by decide) dX11_keeps_3 (fun r w1 H locs hq hw => ?_)
  obtain ⟨rfl, rfl⟩ := hq
  have hw : kW γ A [(x, .inr (10, [.ref x0, .ref x1, .ref x2, .ref x3, .ref x4, .ref x5, .ref x6, .ref x7, .ref x8, .ref x9, .ref x10])), (x9, .inr (0, [.ref x90, .ref x91, .ref x92, .ref x93, .ref x94, .ref x95, .ref x96, .ref x97, .int 0, .int 0, .int 10, .int 10, .int 3, .int 0, .int 0, .int 0, .int 0, .int 0, .int 0]))] s H locs := hw
  refine W.eq (g2 := F0 m 6 ls [.int 0]) rfl ?_
  refine lv_if_eq (tgt := 24) hx hb dX11_keeps_6 (by decide) (fun _ => ?_) (fun h => absurd (by decide) h)
  refine lv_iconst (v := (-1)) hx hb dX11_keeps_24 (by decide) ?_
  exact k_iret hC hr hlocks hw [] rfl rfl ⟨rfl, rfl⟩ (by decide) (by decide) dX11_keeps_25

set_option maxHeartbeats 4000000 in
set_option maxRecDepth 100000 in
theorem c_X11_think (γ : kΓ) (l : Launch) (x : Nat) (x0 : Nat) (x1 : Nat) (x2 : Nat) (x3 : Nat) (x4 : Nat) (x5 : Nat) (x6 : Nat) (x7 : Nat) (x8 : Nat) (x9 : Nat) (x10 : Nat) (x90 : Nat) (x91 : Nat) (x92 : Nat) (x93 : Nat) (x94 : Nat) (x95 : Nat) (x96 : Nat) (x97 : Nat) (t : Int32) (u : Int32) : kM γ l yX11_think cX11_think 3 ((some .int)) ({ frames := 2, cells := 0, slots := 0, locals := 43 } : Room) [.ref x, .int t, .int u] [(x, .inr (10, [.ref x0, .ref x1, .ref x2, .ref x3, .ref x4, .ref x5, .ref x6, .ref x7, .ref x8, .ref x9, .ref x10])), (x9, .inr (0, [.ref x90, .ref x91, .ref x92, .ref x93, .ref x94, .ref x95, .ref x96, .ref x97, .int 0, .int 0, .int 10, .int 10, .int 3, .int 0, .int 0, .int 0, .int 0, .int 0, .int 0]))] (fun r w1 => r = some (.int (-1)) ∧ w1 = []) := by
  refine k_ofW (by decide) (Nat.le_of_ble_eq_true rfl) ?_
  intro p e s m below meth c A ls hC hr hlocks hname hw hl
  have hx := hC.1
  have hb := hC.2.1
  have hl : lv_has ls 3 [(0, .ref x), (1, .int t), (2, .int u)] := hl
  refine lv_aload_n hx hb dX11_think_0 rfl (lv_at hl 0 rfl) ?_
  refine lv_iload_n hx hb dX11_think_1 rfl (lv_at hl 1 rfl) ?_
  refine lv_iload_n hx hb dX11_think_2 rfl (lv_at hl 2 rfl) ?_
  refine k_V (wr := []) 2 gw_731 gw_733 gp_26 gw_1 gw_734 hd_X11_areBoth hC hw (c_X11_areBoth γ l x x0 x1 x2 x3 x4 x5 x6 x7 x8 x9 x10 x90 x91 x92 x93 x94 x95 x96 x97 t u) ⟨by decide, by decide⟩ ⟨by decide, by decide⟩ hl.1 rfl 0 rfl rfl rfl (Nat.le_of_ble_eq_true rfl) [0, 1] [] rfl rfl rfl rfl (by decide) dX11_think_3 (fun r w1 H locs hq hw => ?_)
  obtain ⟨rfl, rfl⟩ := hq
  have hw : kW γ A [(x, .inr (10, [.ref x0, .ref x1, .ref x2, .ref x3, .ref x4, .ref x5, .ref x6, .ref x7, .ref x8, .ref x9, .ref x10])), (x9, .inr (0, [.ref x90, .ref x91, .ref x92, .ref x93, .ref x94, .ref x95, .ref x96, .ref x97, .int 0, .int 0, .int 10, .int 10, .int 3, .int 0, .int 0, .int 0, .int 0, .int 0, .int 0]))] s H locs := hw
  refine W.eq (g2 := F0 m 6 ls [.int 0]) rfl ?_
  refine lv_if_eq (tgt := 28) hx hb dX11_think_6 (by decide) (fun _ => ?_) (fun h => absurd (by decide) h)
  refine lv_iconst (v := (-1)) hx hb dX11_think_28 (by decide) ?_
  exact k_iret hC hr hlocks hw [] rfl rfl ⟨rfl, rfl⟩ (by decide) (by decide) dX11_think_29

set_option maxHeartbeats 4000000 in
set_option maxRecDepth 100000 in
theorem c_X11_pool (γ : kΓ) (l : Launch) (x : Nat) (x0 : Nat) (x1 : Nat) (x2 : Nat) (x3 : Nat) (x4 : Nat) (x5 : Nat) (x6 : Nat) (x7 : Nat) (x8 : Nat) (x9 : Nat) (x10 : Nat) (x90 : Nat) (x91 : Nat) (x92 : Nat) (x93 : Nat) (x94 : Nat) (x95 : Nat) (x96 : Nat) (x97 : Nat) (t : Int32) (u : Int32) : kM γ l yX11_pool cX11_pool 3 ((some .boolean)) ({ frames := 2, cells := 0, slots := 0, locals := 43 } : Room) [.ref x, .int t, .int u] [(x, .inr (10, [.ref x0, .ref x1, .ref x2, .ref x3, .ref x4, .ref x5, .ref x6, .ref x7, .ref x8, .ref x9, .ref x10])), (x9, .inr (0, [.ref x90, .ref x91, .ref x92, .ref x93, .ref x94, .ref x95, .ref x96, .ref x97, .int 0, .int 0, .int 10, .int 10, .int 3, .int 0, .int 0, .int 0, .int 0, .int 0, .int 0]))] (fun r w1 => r = some (.int 0) ∧ w1 = []) := by
  refine k_ofW (by decide) (Nat.le_of_ble_eq_true rfl) ?_
  intro p e s m below meth c A ls hC hr hlocks hname hw hl
  have hx := hC.1
  have hb := hC.2.1
  have hl : lv_has ls 3 [(0, .ref x), (1, .int t), (2, .int u)] := hl
  refine lv_aload_n hx hb dX11_pool_0 rfl (lv_at hl 0 rfl) ?_
  refine lv_iload_n hx hb dX11_pool_1 rfl (lv_at hl 1 rfl) ?_
  refine lv_iload_n hx hb dX11_pool_2 rfl (lv_at hl 2 rfl) ?_
  refine k_V (wr := []) 2 gw_731 gw_733 gp_26 gw_1 gw_734 hd_X11_areBoth hC hw (c_X11_areBoth γ l x x0 x1 x2 x3 x4 x5 x6 x7 x8 x9 x10 x90 x91 x92 x93 x94 x95 x96 x97 t u) ⟨by decide, by decide⟩ ⟨by decide, by decide⟩ hl.1 rfl 0 rfl rfl rfl (Nat.le_of_ble_eq_true rfl) [0, 1] [] rfl rfl rfl rfl (by decide) dX11_pool_3 (fun r w1 H locs hq hw => ?_)
  obtain ⟨rfl, rfl⟩ := hq
  have hw : kW γ A [(x, .inr (10, [.ref x0, .ref x1, .ref x2, .ref x3, .ref x4, .ref x5, .ref x6, .ref x7, .ref x8, .ref x9, .ref x10])), (x9, .inr (0, [.ref x90, .ref x91, .ref x92, .ref x93, .ref x94, .ref x95, .ref x96, .ref x97, .int 0, .int 0, .int 10, .int 10, .int 3, .int 0, .int 0, .int 0, .int 0, .int 0, .int 0]))] s H locs := hw
  refine W.eq (g2 := F0 m 6 ls [.int 0]) rfl ?_
  refine lv_if_eq (tgt := 24) hx hb dX11_pool_6 (by decide) (fun _ => ?_) (fun h => absurd (by decide) h)
  refine lv_iconst (v := 0) hx hb dX11_pool_24 (by decide) ?_
  exact k_zret hC hr hlocks rfl hw [] rfl rfl ⟨rfl, rfl⟩ (by decide) (by decide) dX11_pool_25

set_option maxHeartbeats 4000000 in
set_option maxRecDepth 100000 in
theorem c_X11_tithed (γ : kΓ) (l : Launch) (x : Nat) (x0 : Nat) (x1 : Nat) (x2 : Nat) (x3 : Nat) (x4 : Nat) (x5 : Nat) (x6 : Nat) (x7 : Nat) (x8 : Nat) (x9 : Nat) (x10 : Nat) (x90 : Nat) (x91 : Nat) (x92 : Nat) (x93 : Nat) (x94 : Nat) (x95 : Nat) (x96 : Nat) (x97 : Nat) (t : Int32) (u : Int32) : kM γ l yX11_tithed cX11_tithed 6 ((some .int)) ({ frames := 2, cells := 0, slots := 0, locals := 43 } : Room) [.ref x, .int t, .int u] [(x, .inr (10, [.ref x0, .ref x1, .ref x2, .ref x3, .ref x4, .ref x5, .ref x6, .ref x7, .ref x8, .ref x9, .ref x10])), (x9, .inr (0, [.ref x90, .ref x91, .ref x92, .ref x93, .ref x94, .ref x95, .ref x96, .ref x97, .int 0, .int 0, .int 10, .int 10, .int 3, .int 0, .int 0, .int 0, .int 0, .int 0, .int 0]))] (fun r w1 => r = some (.int (-1)) ∧ w1 = []) := by
  refine k_ofW (by decide) (Nat.le_of_ble_eq_true rfl) ?_
  intro p e s m below meth c A ls hC hr hlocks hname hw hl
  have hx := hC.1
  have hb := hC.2.1
  have hl : lv_has ls 6 [(0, .ref x), (1, .int t), (2, .int u)] := hl
  refine lv_aload_n hx hb dX11_tithed_0 rfl (lv_at hl 0 rfl) ?_
  refine lv_iload_n hx hb dX11_tithed_1 rfl (lv_at hl 1 rfl) ?_
  refine lv_iload_n hx hb dX11_tithed_2 rfl (lv_at hl 2 rfl) ?_
  refine k_V (wr := []) 2 gw_731 gw_733 gp_26 gw_1 gw_734 hd_X11_areBoth hC hw (c_X11_areBoth γ l x x0 x1 x2 x3 x4 x5 x6 x7 x8 x9 x10 x90 x91 x92 x93 x94 x95 x96 x97 t u) ⟨by decide, by decide⟩ ⟨by decide, by decide⟩ hl.1 rfl 0 rfl rfl rfl (Nat.le_of_ble_eq_true rfl) [0, 1] [] rfl rfl rfl rfl (by decide) dX11_tithed_3 (fun r w1 H locs hq hw => ?_)
  obtain ⟨rfl, rfl⟩ := hq
  have hw : kW γ A [(x, .inr (10, [.ref x0, .ref x1, .ref x2, .ref x3, .ref x4, .ref x5, .ref x6, .ref x7, .ref x8, .ref x9, .ref x10])), (x9, .inr (0, [.ref x90, .ref x91, .ref x92, .ref x93, .ref x94, .ref x95, .ref x96, .ref x97, .int 0, .int 0, .int 10, .int 10, .int 3, .int 0, .int 0, .int 0, .int 0, .int 0, .int 0]))] s H locs := hw
  refine W.eq (g2 := F0 m 6 ls [.int 0]) rfl ?_
  refine lv_if_eq (tgt := 23) hx hb dX11_tithed_6 (by decide) (fun _ => ?_) (fun h => absurd (by decide) h)
  refine lv_iconst (v := (-1)) hx hb dX11_tithed_23 (by decide) ?_
  exact k_iret hC hr hlocks hw [] rfl rfl ⟨rfl, rfl⟩ (by decide) (by decide) dX11_tithed_24

set_option maxHeartbeats 4000000 in
set_option maxRecDepth 100000 in
theorem c_X11_gate (γ : kΓ) (l : Launch) (x : Nat) (x0 : Nat) (x1 : Nat) (x2 : Nat) (x3 : Nat) (x4 : Nat) (x5 : Nat) (x6 : Nat) (x7 : Nat) (x8 : Nat) (x9 : Nat) (x10 : Nat) (x90 : Nat) (x91 : Nat) (x92 : Nat) (x93 : Nat) (x94 : Nat) (x95 : Nat) (x96 : Nat) (x97 : Nat) (t : Int32) : kM γ l yX11_gate cX11_gate 2 ((some .int)) ({ frames := 1, cells := 0, slots := 0, locals := 21 } : Room) [.ref x, .int t] [(x, .inr (10, [.ref x0, .ref x1, .ref x2, .ref x3, .ref x4, .ref x5, .ref x6, .ref x7, .ref x8, .ref x9, .ref x10])), (x9, .inr (0, [.ref x90, .ref x91, .ref x92, .ref x93, .ref x94, .ref x95, .ref x96, .ref x97, .int 0, .int 0, .int 10, .int 10, .int 3, .int 0, .int 0, .int 0, .int 0, .int 0, .int 0]))] (fun r w1 => r = some (.int (-1)) ∧ w1 = []) := by
  refine k_ofW (by decide) (Nat.le_of_ble_eq_true rfl) ?_
  intro p e s m below meth c A ls hC hr hlocks hname hw hl
  have hx := hC.1
  have hb := hC.2.1
  have hl : lv_has ls 2 [(0, .ref x), (1, .int t)] := hl
  refine lv_aload_n hx hb dX11_gate_0 rfl (lv_at hl 0 rfl) ?_
  refine lv_iload_n hx hb dX11_gate_1 rfl (lv_at hl 1 rfl) ?_
  refine k_V (wr := []) 1 gw_705 gw_707 gp_25 gw_1 gw_708 hd_X11_isTenant hC hw (c_X11_isTenant γ l x x0 x1 x2 x3 x4 x5 x6 x7 x8 x9 x10 x90 x91 x92 x93 x94 x95 x96 x97 t) ⟨by decide, by decide⟩ ⟨by decide, by decide⟩ hl.1 rfl 0 rfl rfl rfl (Nat.le_of_ble_eq_true rfl) [0, 1] [] rfl rfl rfl rfl (by decide) dX11_gate_2 (fun r w1 H locs hq hw => ?_)
  obtain ⟨rfl, rfl⟩ := hq
  have hw : kW γ A [(x, .inr (10, [.ref x0, .ref x1, .ref x2, .ref x3, .ref x4, .ref x5, .ref x6, .ref x7, .ref x8, .ref x9, .ref x10])), (x9, .inr (0, [.ref x90, .ref x91, .ref x92, .ref x93, .ref x94, .ref x95, .ref x96, .ref x97, .int 0, .int 0, .int 10, .int 10, .int 3, .int 0, .int 0, .int 0, .int 0, .int 0, .int 0]))] s H locs := hw
  refine W.eq (g2 := F0 m 5 ls [.int 0]) rfl ?_
  refine lv_if_eq (tgt := 22) hx hb dX11_gate_5 (by decide) (fun _ => ?_) (fun h => absurd (by decide) h)
  refine lv_iconst (v := (-1)) hx hb dX11_gate_22 (by decide) ?_
  exact k_iret hC hr hlocks hw [] rfl rfl ⟨rfl, rfl⟩ (by decide) (by decide) dX11_gate_23

set_option maxHeartbeats 4000000 in
set_option maxRecDepth 100000 in
theorem c_X11_safe (γ : kΓ) (l : Launch) (x : Nat) (x0 : Nat) (x1 : Nat) (x2 : Nat) (x3 : Nat) (x4 : Nat) (x5 : Nat) (x6 : Nat) (x7 : Nat) (x8 : Nat) (x9 : Nat) (x10 : Nat) (x90 : Nat) (x91 : Nat) (x92 : Nat) (x93 : Nat) (x94 : Nat) (x95 : Nat) (x96 : Nat) (x97 : Nat) (t : Int32) : kM γ l yX11_safe cX11_safe 2 ((some .int)) ({ frames := 1, cells := 0, slots := 0, locals := 21 } : Room) [.ref x, .int t] [(x, .inr (10, [.ref x0, .ref x1, .ref x2, .ref x3, .ref x4, .ref x5, .ref x6, .ref x7, .ref x8, .ref x9, .ref x10])), (x9, .inr (0, [.ref x90, .ref x91, .ref x92, .ref x93, .ref x94, .ref x95, .ref x96, .ref x97, .int 0, .int 0, .int 10, .int 10, .int 3, .int 0, .int 0, .int 0, .int 0, .int 0, .int 0]))] (fun r w1 => r = some (.int (-1)) ∧ w1 = []) := by
  refine k_ofW (by decide) (Nat.le_of_ble_eq_true rfl) ?_
  intro p e s m below meth c A ls hC hr hlocks hname hw hl
  have hx := hC.1
  have hb := hC.2.1
  have hl : lv_has ls 2 [(0, .ref x), (1, .int t)] := hl
  refine lv_aload_n hx hb dX11_safe_0 rfl (lv_at hl 0 rfl) ?_
  refine lv_iload_n hx hb dX11_safe_1 rfl (lv_at hl 1 rfl) ?_
  refine k_V (wr := []) 1 gw_705 gw_707 gp_25 gw_1 gw_708 hd_X11_isTenant hC hw (c_X11_isTenant γ l x x0 x1 x2 x3 x4 x5 x6 x7 x8 x9 x10 x90 x91 x92 x93 x94 x95 x96 x97 t) ⟨by decide, by decide⟩ ⟨by decide, by decide⟩ hl.1 rfl 0 rfl rfl rfl (Nat.le_of_ble_eq_true rfl) [0, 1] [] rfl rfl rfl rfl (by decide) dX11_safe_2 (fun r w1 H locs hq hw => ?_)
  obtain ⟨rfl, rfl⟩ := hq
  have hw : kW γ A [(x, .inr (10, [.ref x0, .ref x1, .ref x2, .ref x3, .ref x4, .ref x5, .ref x6, .ref x7, .ref x8, .ref x9, .ref x10])), (x9, .inr (0, [.ref x90, .ref x91, .ref x92, .ref x93, .ref x94, .ref x95, .ref x96, .ref x97, .int 0, .int 0, .int 10, .int 10, .int 3, .int 0, .int 0, .int 0, .int 0, .int 0, .int 0]))] s H locs := hw
  refine W.eq (g2 := F0 m 5 ls [.int 0]) rfl ?_
  refine lv_if_ne (tgt := 10) hx hb dX11_safe_5 (by decide) (fun h => absurd rfl h) (fun _ => ?_)
  refine lv_iconst (v := (-1)) hx hb dX11_safe_8 (by decide) ?_
  exact k_iret hC hr hlocks hw [] rfl rfl ⟨rfl, rfl⟩ (by decide) (by decide) dX11_safe_9

set_option maxHeartbeats 4000000 in
set_option maxRecDepth 100000 in
theorem c_X11_ring (γ : kΓ) (l : Launch) (x : Nat) (x0 : Nat) (x1 : Nat) (x2 : Nat) (x3 : Nat) (x4 : Nat) (x5 : Nat) (x6 : Nat) (x7 : Nat) (x8 : Nat) (x9 : Nat) (x10 : Nat) (x90 : Nat) (x91 : Nat) (x92 : Nat) (x93 : Nat) (x94 : Nat) (x95 : Nat) (x96 : Nat) (x97 : Nat) (t : Int32) : kM γ l yX11_ring cX11_ring 4 ((some .int)) ({ frames := 1, cells := 0, slots := 0, locals := 21 } : Room) [.ref x, .int t] [(x, .inr (10, [.ref x0, .ref x1, .ref x2, .ref x3, .ref x4, .ref x5, .ref x6, .ref x7, .ref x8, .ref x9, .ref x10])), (x9, .inr (0, [.ref x90, .ref x91, .ref x92, .ref x93, .ref x94, .ref x95, .ref x96, .ref x97, .int 0, .int 0, .int 10, .int 10, .int 3, .int 0, .int 0, .int 0, .int 0, .int 0, .int 0]))] (fun r w1 => r = some (.int (-1)) ∧ w1 = []) := by
  refine k_ofW (by decide) (Nat.le_of_ble_eq_true rfl) ?_
  intro p e s m below meth c A ls hC hr hlocks hname hw hl
  have hx := hC.1
  have hb := hC.2.1
  have hl : lv_has ls 4 [(0, .ref x), (1, .int t)] := hl
  refine lv_aload_n hx hb dX11_ring_0 rfl (lv_at hl 0 rfl) ?_
  refine lv_iload_n hx hb dX11_ring_1 rfl (lv_at hl 1 rfl) ?_
  refine k_V (wr := []) 1 gw_697 gw_699 gp_24 gw_1 gw_700 hd_X11_isThought hC hw (c_X11_isThought γ l x x0 x1 x2 x3 x4 x5 x6 x7 x8 x9 x10 x90 x91 x92 x93 x94 x95 x96 x97 t) ⟨by decide, by decide⟩ ⟨by decide, by decide⟩ hl.1 rfl 0 rfl rfl rfl (Nat.le_of_ble_eq_true rfl) [0, 1] [] rfl rfl rfl rfl (by decide) dX11_ring_2 (fun r w1 H locs hq hw => ?_)
  obtain ⟨rfl, rfl⟩ := hq
  have hw : kW γ A [(x, .inr (10, [.ref x0, .ref x1, .ref x2, .ref x3, .ref x4, .ref x5, .ref x6, .ref x7, .ref x8, .ref x9, .ref x10])), (x9, .inr (0, [.ref x90, .ref x91, .ref x92, .ref x93, .ref x94, .ref x95, .ref x96, .ref x97, .int 0, .int 0, .int 10, .int 10, .int 3, .int 0, .int 0, .int 0, .int 0, .int 0, .int 0]))] s H locs := hw
  refine W.eq (g2 := F0 m 5 ls [.int 0]) rfl ?_
  refine lv_if_ne (tgt := 10) hx hb dX11_ring_5 (by decide) (fun h => absurd rfl h) (fun _ => ?_)
  refine lv_iconst (v := (-1)) hx hb dX11_ring_8 (by decide) ?_
  exact k_iret hC hr hlocks hw [] rfl rfl ⟨rfl, rfl⟩ (by decide) (by decide) dX11_ring_9

set_option maxHeartbeats 4000000 in
set_option maxRecDepth 100000 in
theorem c_X11_dowry (γ : kΓ) (l : Launch) (x : Nat) (x0 : Nat) (x1 : Nat) (x2 : Nat) (x3 : Nat) (x4 : Nat) (x5 : Nat) (x6 : Nat) (x7 : Nat) (x8 : Nat) (x9 : Nat) (x10 : Nat) (x90 : Nat) (x91 : Nat) (x92 : Nat) (x93 : Nat) (x94 : Nat) (x95 : Nat) (x96 : Nat) (x97 : Nat) (t : Int32) : kM γ l yX11_dowry cX11_dowry 2 ((some .int)) ({ frames := 1, cells := 0, slots := 0, locals := 21 } : Room) [.ref x, .int t] [(x, .inr (10, [.ref x0, .ref x1, .ref x2, .ref x3, .ref x4, .ref x5, .ref x6, .ref x7, .ref x8, .ref x9, .ref x10])), (x9, .inr (0, [.ref x90, .ref x91, .ref x92, .ref x93, .ref x94, .ref x95, .ref x96, .ref x97, .int 0, .int 0, .int 10, .int 10, .int 3, .int 0, .int 0, .int 0, .int 0, .int 0, .int 0]))] (fun r w1 => r = some (.int (-1)) ∧ w1 = []) := by
  refine k_ofW (by decide) (Nat.le_of_ble_eq_true rfl) ?_
  intro p e s m below meth c A ls hC hr hlocks hname hw hl
  have hx := hC.1
  have hb := hC.2.1
  have hl : lv_has ls 2 [(0, .ref x), (1, .int t)] := hl
  refine lv_aload_n hx hb dX11_dowry_0 rfl (lv_at hl 0 rfl) ?_
  refine lv_iload_n hx hb dX11_dowry_1 rfl (lv_at hl 1 rfl) ?_
  refine k_V (wr := []) 1 gw_705 gw_707 gp_25 gw_1 gw_708 hd_X11_isTenant hC hw (c_X11_isTenant γ l x x0 x1 x2 x3 x4 x5 x6 x7 x8 x9 x10 x90 x91 x92 x93 x94 x95 x96 x97 t) ⟨by decide, by decide⟩ ⟨by decide, by decide⟩ hl.1 rfl 0 rfl rfl rfl (Nat.le_of_ble_eq_true rfl) [0, 1] [] rfl rfl rfl rfl (by decide) dX11_dowry_2 (fun r w1 H locs hq hw => ?_)
  obtain ⟨rfl, rfl⟩ := hq
  have hw : kW γ A [(x, .inr (10, [.ref x0, .ref x1, .ref x2, .ref x3, .ref x4, .ref x5, .ref x6, .ref x7, .ref x8, .ref x9, .ref x10])), (x9, .inr (0, [.ref x90, .ref x91, .ref x92, .ref x93, .ref x94, .ref x95, .ref x96, .ref x97, .int 0, .int 0, .int 10, .int 10, .int 3, .int 0, .int 0, .int 0, .int 0, .int 0, .int 0]))] s H locs := hw
  refine W.eq (g2 := F0 m 5 ls [.int 0]) rfl ?_
  refine lv_if_eq (tgt := 26) hx hb dX11_dowry_5 (by decide) (fun _ => ?_) (fun h => absurd (by decide) h)
  refine lv_iconst (v := (-1)) hx hb dX11_dowry_26 (by decide) ?_
  exact k_iret hC hr hlocks hw [] rfl rfl ⟨rfl, rfl⟩ (by decide) (by decide) dX11_dowry_27

set_option maxHeartbeats 4000000 in
set_option maxRecDepth 100000 in
theorem c_X11_ways (γ : kΓ) (l : Launch) (x : Nat) (x0 : Nat) (x1 : Nat) (x2 : Nat) (x3 : Nat) (x4 : Nat) (x5 : Nat) (x6 : Nat) (x7 : Nat) (x8 : Nat) (x9 : Nat) (x10 : Nat) (x90 : Nat) (x91 : Nat) (x92 : Nat) (x93 : Nat) (x94 : Nat) (x95 : Nat) (x96 : Nat) (x97 : Nat) (t : Int32) (u : Int32) (v : Int32) : kM γ l yX11_ways cX11_ways 5 ((some .int)) ({ frames := 2, cells := 0, slots := 0, locals := 43 } : Room) [.ref x, .int t, .int u, .int v] [(x, .inr (10, [.ref x0, .ref x1, .ref x2, .ref x3, .ref x4, .ref x5, .ref x6, .ref x7, .ref x8, .ref x9, .ref x10])), (x9, .inr (0, [.ref x90, .ref x91, .ref x92, .ref x93, .ref x94, .ref x95, .ref x96, .ref x97, .int 0, .int 0, .int 10, .int 10, .int 3, .int 0, .int 0, .int 0, .int 0, .int 0, .int 0]))] (fun r w1 => r = some (.int (-1)) ∧ w1 = []) := by
  refine k_ofW (by decide) (Nat.le_of_ble_eq_true rfl) ?_
  intro p e s m below meth c A ls hC hr hlocks hname hw hl
  have hx := hC.1
  have hb := hC.2.1
  have hl : lv_has ls 5 [(0, .ref x), (1, .int t), (2, .int u), (3, .int v)] := hl
  refine lv_aload_n hx hb dX11_ways_0 rfl (lv_at hl 0 rfl) ?_
  refine lv_iload_n hx hb dX11_ways_1 rfl (lv_at hl 1 rfl) ?_
  refine lv_iload_n hx hb dX11_ways_2 rfl (lv_at hl 2 rfl) ?_
  refine k_V (wr := []) 2 gw_731 gw_733 gp_26 gw_1 gw_734 hd_X11_areBoth hC hw (c_X11_areBoth γ l x x0 x1 x2 x3 x4 x5 x6 x7 x8 x9 x10 x90 x91 x92 x93 x94 x95 x96 x97 t u) ⟨by decide, by decide⟩ ⟨by decide, by decide⟩ hl.1 rfl 0 rfl rfl rfl (Nat.le_of_ble_eq_true rfl) [0, 1] [] rfl rfl rfl rfl (by decide) dX11_ways_3 (fun r w1 H locs hq hw => ?_)
  obtain ⟨rfl, rfl⟩ := hq
  have hw : kW γ A [(x, .inr (10, [.ref x0, .ref x1, .ref x2, .ref x3, .ref x4, .ref x5, .ref x6, .ref x7, .ref x8, .ref x9, .ref x10])), (x9, .inr (0, [.ref x90, .ref x91, .ref x92, .ref x93, .ref x94, .ref x95, .ref x96, .ref x97, .int 0, .int 0, .int 10, .int 10, .int 3, .int 0, .int 0, .int 0, .int 0, .int 0, .int 0]))] s H locs := hw
  refine W.eq (g2 := F0 m 6 ls [.int 0]) rfl ?_
  refine lv_if_eq (tgt := 20) hx hb dX11_ways_6 (by decide) (fun _ => ?_) (fun h => absurd (by decide) h)
  refine lv_iconst (v := (-1)) hx hb dX11_ways_20 (by decide) ?_
  exact k_iret hC hr hlocks hw [] rfl rfl ⟨rfl, rfl⟩ (by decide) (by decide) dX11_ways_21

set_option maxHeartbeats 4000000 in
set_option maxRecDepth 100000 in
theorem c_X11_chance (γ : kΓ) (l : Launch) (x : Nat) (x0 : Nat) (x1 : Nat) (x2 : Nat) (x3 : Nat) (x4 : Nat) (x5 : Nat) (x6 : Nat) (x7 : Nat) (x8 : Nat) (x9 : Nat) (x10 : Nat) (x90 : Nat) (x91 : Nat) (x92 : Nat) (x93 : Nat) (x94 : Nat) (x95 : Nat) (x96 : Nat) (x97 : Nat) (t : Int32) (u : Int32) : kM γ l yX11_chance cX11_chance 6 ((some .int)) ({ frames := 2, cells := 0, slots := 0, locals := 43 } : Room) [.ref x, .int t, .int u] [(x, .inr (10, [.ref x0, .ref x1, .ref x2, .ref x3, .ref x4, .ref x5, .ref x6, .ref x7, .ref x8, .ref x9, .ref x10])), (x9, .inr (0, [.ref x90, .ref x91, .ref x92, .ref x93, .ref x94, .ref x95, .ref x96, .ref x97, .int 0, .int 0, .int 10, .int 10, .int 3, .int 0, .int 0, .int 0, .int 0, .int 0, .int 0]))] (fun r w1 => r = some (.int (-1)) ∧ w1 = []) := by
  refine k_ofW (by decide) (Nat.le_of_ble_eq_true rfl) ?_
  intro p e s m below meth c A ls hC hr hlocks hname hw hl
  have hx := hC.1
  have hb := hC.2.1
  have hl : lv_has ls 6 [(0, .ref x), (1, .int t), (2, .int u)] := hl
  refine lv_aload_n hx hb dX11_chance_0 rfl (lv_at hl 0 rfl) ?_
  refine lv_iload_n hx hb dX11_chance_1 rfl (lv_at hl 1 rfl) ?_
  refine lv_iload_n hx hb dX11_chance_2 rfl (lv_at hl 2 rfl) ?_
  refine k_V (wr := []) 2 gw_731 gw_733 gp_26 gw_1 gw_734 hd_X11_areBoth hC hw (c_X11_areBoth γ l x x0 x1 x2 x3 x4 x5 x6 x7 x8 x9 x10 x90 x91 x92 x93 x94 x95 x96 x97 t u) ⟨by decide, by decide⟩ ⟨by decide, by decide⟩ hl.1 rfl 0 rfl rfl rfl (Nat.le_of_ble_eq_true rfl) [0, 1] [] rfl rfl rfl rfl (by decide) dX11_chance_3 (fun r w1 H locs hq hw => ?_)
  obtain ⟨rfl, rfl⟩ := hq
  have hw : kW γ A [(x, .inr (10, [.ref x0, .ref x1, .ref x2, .ref x3, .ref x4, .ref x5, .ref x6, .ref x7, .ref x8, .ref x9, .ref x10])), (x9, .inr (0, [.ref x90, .ref x91, .ref x92, .ref x93, .ref x94, .ref x95, .ref x96, .ref x97, .int 0, .int 0, .int 10, .int 10, .int 3, .int 0, .int 0, .int 0, .int 0, .int 0, .int 0]))] s H locs := hw
  refine W.eq (g2 := F0 m 6 ls [.int 0]) rfl ?_
  refine lv_if_eq (tgt := 23) hx hb dX11_chance_6 (by decide) (fun _ => ?_) (fun h => absurd (by decide) h)
  refine lv_iconst (v := (-1)) hx hb dX11_chance_23 (by decide) ?_
  exact k_iret hC hr hlocks hw [] rfl rfl ⟨rfl, rfl⟩ (by decide) (by decide) dX11_chance_24

set_option maxHeartbeats 4000000 in
set_option maxRecDepth 100000 in
theorem c_X11_guess (γ : kΓ) (l : Launch) (x : Nat) (x0 : Nat) (x1 : Nat) (x2 : Nat) (x3 : Nat) (x4 : Nat) (x5 : Nat) (x6 : Nat) (x7 : Nat) (x8 : Nat) (x9 : Nat) (x10 : Nat) (x90 : Nat) (x91 : Nat) (x92 : Nat) (x93 : Nat) (x94 : Nat) (x95 : Nat) (x96 : Nat) (x97 : Nat) (t : Int32) (u : Int32) : kM γ l yX11_guess cX11_guess 3 ((some .boolean)) ({ frames := 1, cells := 0, slots := 0, locals := 21 } : Room) [.ref x, .int t, .int u] [(x, .inr (10, [.ref x0, .ref x1, .ref x2, .ref x3, .ref x4, .ref x5, .ref x6, .ref x7, .ref x8, .ref x9, .ref x10])), (x9, .inr (0, [.ref x90, .ref x91, .ref x92, .ref x93, .ref x94, .ref x95, .ref x96, .ref x97, .int 0, .int 0, .int 10, .int 10, .int 3, .int 0, .int 0, .int 0, .int 0, .int 0, .int 0]))] (fun r w1 => r = some (.int 0) ∧ w1 = []) := by
  refine k_ofW (by decide) (Nat.le_of_ble_eq_true rfl) ?_
  intro p e s m below meth c A ls hC hr hlocks hname hw hl
  have hx := hC.1
  have hb := hC.2.1
  have hl : lv_has ls 3 [(0, .ref x), (1, .int t), (2, .int u)] := hl
  refine lv_aload_n hx hb dX11_guess_0 rfl (lv_at hl 0 rfl) ?_
  refine lv_iload_n hx hb dX11_guess_1 rfl (lv_at hl 1 rfl) ?_
  refine k_V (wr := []) 1 gw_697 gw_699 gp_24 gw_1 gw_700 hd_X11_isThought hC hw (c_X11_isThought γ l x x0 x1 x2 x3 x4 x5 x6 x7 x8 x9 x10 x90 x91 x92 x93 x94 x95 x96 x97 t) ⟨by decide, by decide⟩ ⟨by decide, by decide⟩ hl.1 rfl 0 rfl rfl rfl (Nat.le_of_ble_eq_true rfl) [0, 1] [] rfl rfl rfl rfl (by decide) dX11_guess_2 (fun r w1 H locs hq hw => ?_)
  obtain ⟨rfl, rfl⟩ := hq
  have hw : kW γ A [(x, .inr (10, [.ref x0, .ref x1, .ref x2, .ref x3, .ref x4, .ref x5, .ref x6, .ref x7, .ref x8, .ref x9, .ref x10])), (x9, .inr (0, [.ref x90, .ref x91, .ref x92, .ref x93, .ref x94, .ref x95, .ref x96, .ref x97, .int 0, .int 0, .int 10, .int 10, .int 3, .int 0, .int 0, .int 0, .int 0, .int 0, .int 0]))] s H locs := hw
  refine W.eq (g2 := F0 m 5 ls [.int 0]) rfl ?_
  refine lv_if_eq (tgt := 20) hx hb dX11_guess_5 (by decide) (fun _ => ?_) (fun h => absurd (by decide) h)
  refine lv_iconst (v := 0) hx hb dX11_guess_20 (by decide) ?_
  exact k_zret hC hr hlocks rfl hw [] rfl rfl ⟨rfl, rfl⟩ (by decide) (by decide) dX11_guess_21

set_option maxHeartbeats 4000000 in
set_option maxRecDepth 100000 in
theorem c_X11_dead (γ : kΓ) (l : Launch) (x : Nat) (x0 : Nat) (x1 : Nat) (x2 : Nat) (x3 : Nat) (x4 : Nat) (x5 : Nat) (x6 : Nat) (x7 : Nat) (x8 : Nat) (x9 : Nat) (x10 : Nat) (x90 : Nat) (x91 : Nat) (x92 : Nat) (x93 : Nat) (x94 : Nat) (x95 : Nat) (x96 : Nat) (x97 : Nat) : kM γ l yX11_dead cX11_dead 3 ((some .int)) ({ frames := 0, cells := 0, slots := 0, locals := 0 } : Room) [.ref x] [(x, .inr (10, [.ref x0, .ref x1, .ref x2, .ref x3, .ref x4, .ref x5, .ref x6, .ref x7, .ref x8, .ref x9, .ref x10])), (x9, .inr (0, [.ref x90, .ref x91, .ref x92, .ref x93, .ref x94, .ref x95, .ref x96, .ref x97, .int 0, .int 0, .int 10, .int 10, .int 3, .int 0, .int 0, .int 0, .int 0, .int 0, .int 0]))] (fun r w1 => r = some (.int 0) ∧ w1 = []) := by
  refine k_ofW (by decide) (Nat.le_of_ble_eq_true rfl) ?_
  intro p e s m below meth c A ls hC hr hlocks hname hw hl
  have hx := hC.1
  have hb := hC.2.1
  have hl : lv_has ls 3 [(0, .ref x)] := hl
  refine lv_iconst (v := 0) hx hb dX11_dead_0 (by decide) ?_
  refine lv_istore_n (lv' := [(1, .int 0), (0, .ref x)]) hx hb dX11_dead_1 rfl hl (by decide) rfl (fun ls hl => ?_)
  refine lv_iconst (v := 0) hx hb dX11_dead_2 (by decide) ?_
  refine lv_istore_n (lv' := [(2, .int 0), (1, .int 0), (0, .ref x)]) hx hb dX11_dead_3 rfl hl (by decide) rfl (fun ls hl => ?_)
  refine lv_iload_n hx hb dX11_dead_4 rfl (lv_at hl 0 rfl) ?_
  refine lv_aload_n hx hb dX11_dead_5 rfl (lv_at hl 2 rfl) ?_
  refine fg_RX11_65 hC hw 0 rfl rfl dX11_dead_6 ?_
  refine fg_RX11_108 hC hw 1 rfl rfl dX11_dead_9 ?_
  refine lv_icmp_ge (tgt := 39) hx hb dX11_dead_12 (by decide) (fun _ => ?_) (fun h => absurd (by decide) h)
  refine lv_iload_n hx hb dX11_dead_39 rfl (lv_at hl 1 rfl) ?_
  exact k_iret hC hr hlocks hw [] rfl rfl ⟨rfl, rfl⟩ (by decide) (by decide) dX11_dead_40

set_option maxHeartbeats 4000000 in
set_option maxRecDepth 100000 in
theorem c_X11_poorest (γ : kΓ) (l : Launch) (x : Nat) (x0 : Nat) (x1 : Nat) (x2 : Nat) (x3 : Nat) (x4 : Nat) (x5 : Nat) (x6 : Nat) (x7 : Nat) (x8 : Nat) (x9 : Nat) (x10 : Nat) (x90 : Nat) (x91 : Nat) (x92 : Nat) (x93 : Nat) (x94 : Nat) (x95 : Nat) (x96 : Nat) (x97 : Nat) : kM γ l yX11_poorest cX11_poorest 5 ((some .int)) ({ frames := 0, cells := 0, slots := 0, locals := 0 } : Room) [.ref x] [(x, .inr (10, [.ref x0, .ref x1, .ref x2, .ref x3, .ref x4, .ref x5, .ref x6, .ref x7, .ref x8, .ref x9, .ref x10])), (x9, .inr (0, [.ref x90, .ref x91, .ref x92, .ref x93, .ref x94, .ref x95, .ref x96, .ref x97, .int 0, .int 0, .int 10, .int 10, .int 3, .int 0, .int 0, .int 0, .int 0, .int 0, .int 0]))] (fun r w1 => r = some (.int (-1)) ∧ w1 = []) := by
  refine k_ofW (by decide) (Nat.le_of_ble_eq_true rfl) ?_
  intro p e s m below meth c A ls hC hr hlocks hname hw hl
  have hx := hC.1
  have hb := hC.2.1
  have hl : lv_has ls 5 [(0, .ref x)] := hl
  refine lv_iconst (v := (-1)) hx hb dX11_poorest_0 (by decide) ?_
  refine lv_istore_n (lv' := [(1, .int (-1)), (0, .ref x)]) hx hb dX11_poorest_1 rfl hl (by decide) rfl (fun ls hl => ?_)
  refine lv_iconst (v := 0) hx hb dX11_poorest_2 (by decide) ?_
  refine lv_istore_n (lv' := [(2, .int 0), (1, .int (-1)), (0, .ref x)]) hx hb dX11_poorest_3 rfl hl (by decide) rfl (fun ls hl => ?_)
  refine lv_iconst (v := 0) hx hb dX11_poorest_4 (by decide) ?_
  refine lv_istore_n (lv' := [(3, .int 0), (2, .int 0), (1, .int (-1)), (0, .ref x)]) hx hb dX11_poorest_5 rfl hl (by decide) rfl (fun ls hl => ?_)
  refine lv_iload_n hx hb dX11_poorest_6 rfl (lv_at hl 0 rfl) ?_
  refine lv_aload_n hx hb dX11_poorest_7 rfl (lv_at hl 3 rfl) ?_
  refine fg_RX11_65 hC hw 0 rfl rfl dX11_poorest_8 ?_
  refine fg_RX11_111 hC hw 1 rfl rfl dX11_poorest_11 ?_
  refine lv_icmp_ge (tgt := 70) hx hb dX11_poorest_14 (by decide) (fun _ => ?_) (fun h => absurd (by decide) h)
  refine lv_iload_n hx hb dX11_poorest_70 rfl (lv_at hl 2 rfl) ?_
  exact k_iret hC hr hlocks hw [] rfl rfl ⟨rfl, rfl⟩ (by decide) (by decide) dX11_poorest_71

set_option maxHeartbeats 4000000 in
set_option maxRecDepth 100000 in
theorem c_X11_fits (γ : kΓ) (l : Launch) (x : Nat) (x0 : Nat) (x1 : Nat) (x2 : Nat) (x3 : Nat) (x4 : Nat) (x5 : Nat) (x6 : Nat) (x7 : Nat) (x8 : Nat) (x9 : Nat) (x10 : Nat) (x90 : Nat) (x91 : Nat) (x92 : Nat) (x93 : Nat) (x94 : Nat) (x95 : Nat) (x96 : Nat) (x97 : Nat) : kM γ l yX11_fits cX11_fits 3 ((some .int)) ({ frames := 0, cells := 0, slots := 0, locals := 0 } : Room) [.ref x] [(x, .inr (10, [.ref x0, .ref x1, .ref x2, .ref x3, .ref x4, .ref x5, .ref x6, .ref x7, .ref x8, .ref x9, .ref x10])), (x9, .inr (0, [.ref x90, .ref x91, .ref x92, .ref x93, .ref x94, .ref x95, .ref x96, .ref x97, .int 0, .int 0, .int 10, .int 10, .int 3, .int 0, .int 0, .int 0, .int 0, .int 0, .int 0]))] (fun r w1 => r = some (.int 0) ∧ w1 = [(x, .inr (10, [.ref x0, .ref x1, .ref x2, .ref x3, .ref x4, .ref x5, .ref x6, .ref x7, .ref x8, .ref x9, .ref x10])), (x9, .inr (0, [.ref x90, .ref x91, .ref x92, .ref x93, .ref x94, .ref x95, .ref x96, .ref x97, .int 0, .int 0, .int 10, .int 10, .int 3, .int 0, .int 0, .int 0, .int 0, .int 0, .int 0]))]) := by
  refine k_ofW (by decide) (Nat.le_of_ble_eq_true rfl) ?_
  intro p e s m below meth c A ls hC hr hlocks hname hw hl
  have hx := hC.1
  have hb := hC.2.1
  have hl : lv_has ls 3 [(0, .ref x)] := hl
  refine lv_iconst (v := 0) hx hb dX11_fits_0 (by decide) ?_
  refine lv_istore_n (lv' := [(1, .int 0), (0, .ref x)]) hx hb dX11_fits_1 rfl hl (by decide) rfl (fun ls hl => ?_)
  refine lv_iconst (v := 0) hx hb dX11_fits_2 (by decide) ?_
  refine lv_istore_n (lv' := [(2, .int 0), (1, .int 0), (0, .ref x)]) hx hb dX11_fits_3 rfl hl (by decide) rfl (fun ls hl => ?_)
  refine lv_iload_n hx hb dX11_fits_4 rfl (lv_at hl 0 rfl) ?_
  refine lv_aload_n hx hb dX11_fits_5 rfl (lv_at hl 2 rfl) ?_
  refine fg_RX11_65 hC hw 0 rfl rfl dX11_fits_6 ?_
  refine fg_RX11_108 hC hw 1 rfl rfl dX11_fits_9 ?_
  refine lv_icmp_ge (tgt := 46) hx hb dX11_fits_12 (by decide) (fun _ => ?_) (fun h => absurd (by decide) h)
  refine lv_iload_n hx hb dX11_fits_46 rfl (lv_at hl 1 rfl) ?_
  exact k_iret hC hr hlocks hw [0, 1] rfl rfl ⟨rfl, rfl⟩ (by decide) (by decide) dX11_fits_47

set_option maxHeartbeats 4000000 in
set_option maxRecDepth 100000 in
theorem c_bitCount0 (γ : kΓ) (l : Launch) : kM γ l yJ6_bitCount_0f7a4 cJ6_bitCount_0f7a4 1 ((some .int)) ({ frames := 0, cells := 0, slots := 0, locals := 0 } : Room) [.int 0] [] (fun r w1 => r = some (.int 0) ∧ w1 = []) := by
  refine k_ofW (by decide) (Nat.le_of_ble_eq_true rfl) ?_
  intro p e s m below meth c A ls hC hr hlocks hname hw hl
  have hx := hC.1
  have hb := hC.2.1
  have hl : lv_has ls 1 [(0, .int 0)] := hl
  refine lv_iload_n hx hb dJ6_bitCount_0f7a4_0 rfl (lv_at hl 0 rfl) ?_
  refine lv_iload_n hx hb dJ6_bitCount_0f7a4_1 rfl (lv_at hl 0 rfl) ?_
  refine lv_iconst (v := 1) hx hb dJ6_bitCount_0f7a4_2 (by decide) ?_
  refine lv_iushr hx hb dJ6_bitCount_0f7a4_3 rfl ?_
  refine lv_topi (fun x_591 ex_591 => ?_)
  obtain rfl : x_591 = 0 := ex_591.trans (by decide)
  refine k_ldcw hC gw_915 dJ6_bitCount_0f7a4_4 ?_
  refine lv_iand hx hb dJ6_bitCount_0f7a4_7 ?_
  refine lv_topi (fun x_592 ex_592 => ?_)
  obtain rfl : x_592 = 0 := ex_592.trans (by decide)
  refine lv_isub hx hb dJ6_bitCount_0f7a4_8 ?_
  refine lv_topi (fun x_593 ex_593 => ?_)
  obtain rfl : x_593 = 0 := ex_593.trans (by decide)
  refine lv_istore_n (lv' := [(0, .int 0)]) hx hb dJ6_bitCount_0f7a4_9 rfl hl (by decide) rfl (fun ls hl => ?_)
  refine lv_iload_n hx hb dJ6_bitCount_0f7a4_10 rfl (lv_at hl 0 rfl) ?_
  refine k_ldcw hC gw_916 dJ6_bitCount_0f7a4_11 ?_
  refine lv_iand hx hb dJ6_bitCount_0f7a4_14 ?_
  refine lv_topi (fun x_594 ex_594 => ?_)
  obtain rfl : x_594 = 0 := ex_594.trans (by decide)
  refine lv_iload_n hx hb dJ6_bitCount_0f7a4_15 rfl (lv_at hl 0 rfl) ?_
  refine lv_iconst (v := 2) hx hb dJ6_bitCount_0f7a4_16 (by decide) ?_
  refine lv_iushr hx hb dJ6_bitCount_0f7a4_17 rfl ?_
  refine lv_topi (fun x_595 ex_595 => ?_)
  obtain rfl : x_595 = 0 := ex_595.trans (by decide)
  refine k_ldcw hC gw_916 dJ6_bitCount_0f7a4_18 ?_
  refine lv_iand hx hb dJ6_bitCount_0f7a4_21 ?_
  refine lv_topi (fun x_596 ex_596 => ?_)
  obtain rfl : x_596 = 0 := ex_596.trans (by decide)
  refine lv_iadd hx hb dJ6_bitCount_0f7a4_22 ?_
  refine lv_topi (fun x_597 ex_597 => ?_)
  obtain rfl : x_597 = 0 := ex_597.trans (by decide)
  refine lv_istore_n (lv' := [(0, .int 0)]) hx hb dJ6_bitCount_0f7a4_23 rfl hl (by decide) rfl (fun ls hl => ?_)
  refine lv_iload_n hx hb dJ6_bitCount_0f7a4_24 rfl (lv_at hl 0 rfl) ?_
  refine lv_iload_n hx hb dJ6_bitCount_0f7a4_25 rfl (lv_at hl 0 rfl) ?_
  refine lv_iconst (v := 4) hx hb dJ6_bitCount_0f7a4_26 (by decide) ?_
  refine lv_iushr hx hb dJ6_bitCount_0f7a4_27 rfl ?_
  refine lv_topi (fun x_598 ex_598 => ?_)
  obtain rfl : x_598 = 0 := ex_598.trans (by decide)
  refine lv_iadd hx hb dJ6_bitCount_0f7a4_28 ?_
  refine lv_topi (fun x_599 ex_599 => ?_)
  obtain rfl : x_599 = 0 := ex_599.trans (by decide)
  refine k_ldcw hC gw_917 dJ6_bitCount_0f7a4_29 ?_
  refine lv_iand hx hb dJ6_bitCount_0f7a4_32 ?_
  refine lv_topi (fun x_600 ex_600 => ?_)
  obtain rfl : x_600 = 0 := ex_600.trans (by decide)
  refine lv_istore_n (lv' := [(0, .int 0)]) hx hb dJ6_bitCount_0f7a4_33 rfl hl (by decide) rfl (fun ls hl => ?_)
  refine lv_iload_n hx hb dJ6_bitCount_0f7a4_34 rfl (lv_at hl 0 rfl) ?_
  refine lv_iload_n hx hb dJ6_bitCount_0f7a4_35 rfl (lv_at hl 0 rfl) ?_
  refine lv_bipush (v := 8) hx hb dJ6_bitCount_0f7a4_36 (by decide) ?_
  refine lv_iushr hx hb dJ6_bitCount_0f7a4_38 rfl ?_
  refine lv_topi (fun x_601 ex_601 => ?_)
  obtain rfl : x_601 = 0 := ex_601.trans (by decide)
  refine lv_iadd hx hb dJ6_bitCount_0f7a4_39 ?_
  refine lv_topi (fun x_602 ex_602 => ?_)
  obtain rfl : x_602 = 0 := ex_602.trans (by decide)
  refine lv_istore_n (lv' := [(0, .int 0)]) hx hb dJ6_bitCount_0f7a4_40 rfl hl (by decide) rfl (fun ls hl => ?_)
  refine lv_iload_n hx hb dJ6_bitCount_0f7a4_41 rfl (lv_at hl 0 rfl) ?_
  refine lv_iload_n hx hb dJ6_bitCount_0f7a4_42 rfl (lv_at hl 0 rfl) ?_
  refine lv_bipush (v := 16) hx hb dJ6_bitCount_0f7a4_43 (by decide) ?_
  refine lv_iushr hx hb dJ6_bitCount_0f7a4_45 rfl ?_
  refine lv_topi (fun x_603 ex_603 => ?_)
  obtain rfl : x_603 = 0 := ex_603.trans (by decide)
  refine lv_iadd hx hb dJ6_bitCount_0f7a4_46 ?_
  refine lv_topi (fun x_604 ex_604 => ?_)
  obtain rfl : x_604 = 0 := ex_604.trans (by decide)
  refine lv_istore_n (lv' := [(0, .int 0)]) hx hb dJ6_bitCount_0f7a4_47 rfl hl (by decide) rfl (fun ls hl => ?_)
  refine lv_iload_n hx hb dJ6_bitCount_0f7a4_48 rfl (lv_at hl 0 rfl) ?_
  refine lv_bipush (v := 63) hx hb dJ6_bitCount_0f7a4_49 (by decide) ?_
  refine lv_iand hx hb dJ6_bitCount_0f7a4_51 ?_
  refine lv_topi (fun x_605 ex_605 => ?_)
  obtain rfl : x_605 = 0 := ex_605.trans (by decide)
  exact k_iret hC hr hlocks hw [] rfl rfl ⟨rfl, rfl⟩ (by decide) (by decide) dJ6_bitCount_0f7a4_52

set_option maxHeartbeats 4000000 in
set_option maxRecDepth 100000 in
theorem c_X11_ask (γ : kΓ) (l : Launch) (x : Nat) (x0 : Nat) (x1 : Nat) (x2 : Nat) (x3 : Nat) (x4 : Nat) (x5 : Nat) (x6 : Nat) (x7 : Nat) (x8 : Nat) (x9 : Nat) (x10 : Nat) (x90 : Nat) (x91 : Nat) (x92 : Nat) (x93 : Nat) (x94 : Nat) (x95 : Nat) (x96 : Nat) (x97 : Nat) : kM γ l yX11_ask cX11_ask 8 ((some .int)) ({ frames := 1, cells := 0, slots := 0, locals := 22 } : Room) [.ref x] [(x, .inr (10, [.ref x0, .ref x1, .ref x2, .ref x3, .ref x4, .ref x5, .ref x6, .ref x7, .ref x8, .ref x9, .ref x10])), (x9, .inr (0, [.ref x90, .ref x91, .ref x92, .ref x93, .ref x94, .ref x95, .ref x96, .ref x97, .int 0, .int 0, .int 10, .int 10, .int 3, .int 0, .int 0, .int 0, .int 0, .int 0, .int 0]))] (fun r w1 => r = some (.int (-1)) ∧ w1 = []) := by
  refine k_ofW (by decide) (Nat.le_of_ble_eq_true rfl) ?_
  intro p e s m below meth c A ls hC hr hlocks hname hw hl
  have hx := hC.1
  have hb := hC.2.1
  have hl : lv_has ls 8 [(0, .ref x)] := hl
  refine lv_aload_n hx hb dX11_ask_0 rfl (lv_at hl 0 rfl) ?_
  refine k_V (wr := []) 0 gw_1015 gw_1003 gw_1004 gw_1 gw_1005 hd_X11_fits hC hw (c_X11_fits γ l x x0 x1 x2 x3 x4 x5 x6 x7 x8 x9 x10 x90 x91 x92 x93 x94 x95 x96 x97) ⟨by decide, by decide⟩ ⟨by decide, by decide⟩ hl.1 rfl 0 rfl rfl rfl (Nat.le_of_ble_eq_true rfl) [0, 1] [] rfl rfl rfl rfl (by decide) dX11_ask_1 (fun r w1 H locs hq hw => ?_)
  obtain ⟨rfl, rfl⟩ := hq
  have hw : kW γ A [(x, .inr (10, [.ref x0, .ref x1, .ref x2, .ref x3, .ref x4, .ref x5, .ref x6, .ref x7, .ref x8, .ref x9, .ref x10])), (x9, .inr (0, [.ref x90, .ref x91, .ref x92, .ref x93, .ref x94, .ref x95, .ref x96, .ref x97, .int 0, .int 0, .int 10, .int 10, .int 3, .int 0, .int 0, .int 0, .int 0, .int 0, .int 0]))] s H locs := hw
  refine W.eq (g2 := F0 m 4 ls [.int 0]) rfl ?_
  refine lv_istore_n (lv' := [(1, .int 0), (0, .ref x)]) hx hb dX11_ask_4 rfl hl (by decide) rfl (fun ls hl => ?_)
  refine lv_iload_n hx hb dX11_ask_5 rfl (lv_at hl 0 rfl) ?_
  refine k_S (wr := [(x, .inr (10, [.ref x0, .ref x1, .ref x2, .ref x3, .ref x4, .ref x5, .ref x6, .ref x7, .ref x8, .ref x9, .ref x10])), (x9, .inr (0, [.ref x90, .ref x91, .ref x92, .ref x93, .ref x94, .ref x95, .ref x96, .ref x97, .int 0, .int 0, .int 10, .int 10, .int 3, .int 0, .int 0, .int 0, .int 0, .int 0, .int 0]))]) 1 gw_927 gw_913 gw_22 gw_914 hd_J6_bitCount_0f7a4 hC hw (c_bitCount0 γ l) ⟨by decide, by decide⟩ ⟨by decide, by decide⟩ hl.1 rfl rfl (Nat.le_of_ble_eq_true rfl) [] [0, 1] rfl rfl rfl rfl (by decide) dX11_ask_6 (fun r w1 H locs hq hw => ?_)
  obtain ⟨rfl, rfl⟩ := hq
  have hw : kW γ A [(x, .inr (10, [.ref x0, .ref x1, .ref x2, .ref x3, .ref x4, .ref x5, .ref x6, .ref x7, .ref x8, .ref x9, .ref x10])), (x9, .inr (0, [.ref x90, .ref x91, .ref x92, .ref x93, .ref x94, .ref x95, .ref x96, .ref x97, .int 0, .int 0, .int 10, .int 10, .int 3, .int 0, .int 0, .int 0, .int 0, .int 0, .int 0]))] s H locs := hw
  refine W.eq (g2 := F0 m 9 ls [.int 0]) rfl ?_
  refine lv_istore_n (lv' := [(2, .int 0), (1, .int 0), (0, .ref x)]) hx hb dX11_ask_9 rfl hl (by decide) rfl (fun ls hl => ?_)
  refine lv_iconst (v := (-1)) hx hb dX11_ask_10 (by decide) ?_
  refine lv_istore_n (lv' := [(3, .int (-1)), (2, .int 0), (1, .int 0), (0, .ref x)]) hx hb dX11_ask_11 rfl hl (by decide) rfl (fun ls hl => ?_)
  refine lv_iload_n hx hb dX11_ask_12 rfl (lv_at hl 1 rfl) ?_
  refine lv_istore (lv' := [(4, .int 0), (3, .int (-1)), (2, .int 0), (1, .int 0), (0, .ref x)]) hx hb dX11_ask_13 hl (by decide) rfl (fun ls hl => ?_)
  refine lv_iconst (v := 0) hx hb dX11_ask_15 (by decide) ?_
  refine lv_istore (lv' := [(5, .int 0), (4, .int 0), (3, .int (-1)), (2, .int 0), (1, .int 0), (0, .ref x)]) hx hb dX11_ask_16 hl (by decide) rfl (fun ls hl => ?_)
  refine lv_iload hx hb dX11_ask_18 (lv_at hl 0 rfl) ?_
  refine lv_aload_n hx hb dX11_ask_20 rfl (lv_at hl 5 rfl) ?_
  refine fg_RX11_65 hC hw 0 rfl rfl dX11_ask_21 ?_
  refine fg_RX11_108 hC hw 1 rfl rfl dX11_ask_24 ?_
  refine lv_icmp_ge (tgt := 77) hx hb dX11_ask_27 (by decide) (fun _ => ?_) (fun h => absurd (by decide) h)
  refine lv_iload_n hx hb dX11_ask_77 rfl (lv_at hl 2 rfl) ?_
  exact k_iret hC hr hlocks hw [] rfl rfl ⟨rfl, rfl⟩ (by decide) (by decide) dX11_ask_78

set_option maxHeartbeats 4000000 in
set_option maxRecDepth 100000 in
theorem c_X0_allParts (γ : kΓ) (l : Launch) (h : Nat) (h0 : Nat) (h1 : Nat) (h2 : Nat) (h3 : Nat) (h4 : Nat) (h5 : Nat) (h6 : Nat) (h7 : Nat) : kM γ l yX0_allParts cX0_allParts 1 ((some .int)) ({ frames := 0, cells := 0, slots := 0, locals := 0 } : Room) [.ref h] [(h, .inr (0, [.ref h0, .ref h1, .ref h2, .ref h3, .ref h4, .ref h5, .ref h6, .ref h7, .int 0, .int 0, .int 10, .int 10, .int 3, .int 0, .int 0, .int 0, .int 0, .int 0, .int 0]))] (fun r w1 => r = some (.int 7) ∧ w1 = [(h, .inr (0, [.ref h0, .ref h1, .ref h2, .ref h3, .ref h4, .ref h5, .ref h6, .ref h7, .int 0, .int 0, .int 10, .int 10, .int 3, .int 0, .int 0, .int 0, .int 0, .int 0, .int 0]))]) := by
  refine k_ofW (by decide) (Nat.le_of_ble_eq_true rfl) ?_
  intro p e s m below meth c A ls hC hr hlocks hname hw hl
  have hx := hC.1
  have hb := hC.2.1
  have hl : lv_has ls 1 [(0, .ref h)] := hl
  refine lv_iconst (v := 1) hx hb dX0_allParts_0 (by decide) ?_
  refine lv_aload_n hx hb dX0_allParts_1 rfl (lv_at hl 0 rfl) ?_
  refine fg_RX0_53 hC hw 0 rfl rfl dX0_allParts_2 ?_
  refine lv_ishl hx hb dX0_allParts_5 ?_
  refine lv_topi (fun x_606 ex_606 => ?_)
  obtain rfl : x_606 = 8 := ex_606.trans (by decide)
  refine lv_iconst (v := 1) hx hb dX0_allParts_6 (by decide) ?_
  refine lv_isub hx hb dX0_allParts_7 ?_
  refine lv_topi (fun x_607 ex_607 => ?_)
  obtain rfl : x_607 = 7 := ex_607.trans (by decide)
  exact k_iret hC hr hlocks hw [0] rfl rfl ⟨rfl, rfl⟩ (by decide) (by decide) dX0_allParts_8

set_option maxHeartbeats 4000000 in
set_option maxRecDepth 100000 in
theorem c_X11_lacks (γ : kΓ) (l : Launch) (x : Nat) (x0 : Nat) (x1 : Nat) (x2 : Nat) (x3 : Nat) (x4 : Nat) (x5 : Nat) (x6 : Nat) (x7 : Nat) (x8 : Nat) (x9 : Nat) (x10 : Nat) (x90 : Nat) (x91 : Nat) (x92 : Nat) (x93 : Nat) (x94 : Nat) (x95 : Nat) (x96 : Nat) (x97 : Nat) : kM γ l yX11_lacks cX11_lacks 3 ((some .int)) ({ frames := 1, cells := 0, slots := 0, locals := 20 } : Room) [.ref x] [(x, .inr (10, [.ref x0, .ref x1, .ref x2, .ref x3, .ref x4, .ref x5, .ref x6, .ref x7, .ref x8, .ref x9, .ref x10])), (x9, .inr (0, [.ref x90, .ref x91, .ref x92, .ref x93, .ref x94, .ref x95, .ref x96, .ref x97, .int 0, .int 0, .int 10, .int 10, .int 3, .int 0, .int 0, .int 0, .int 0, .int 0, .int 0]))] (fun r w1 => r = some (.int 7) ∧ w1 = [(x, .inr (10, [.ref x0, .ref x1, .ref x2, .ref x3, .ref x4, .ref x5, .ref x6, .ref x7, .ref x8, .ref x9, .ref x10])), (x9, .inr (0, [.ref x90, .ref x91, .ref x92, .ref x93, .ref x94, .ref x95, .ref x96, .ref x97, .int 0, .int 0, .int 10, .int 10, .int 3, .int 0, .int 0, .int 0, .int 0, .int 0, .int 0]))]) := by
  refine k_ofW (by decide) (Nat.le_of_ble_eq_true rfl) ?_
  intro p e s m below meth c A ls hC hr hlocks hname hw hl
  have hx := hC.1
  have hb := hC.2.1
  have hl : lv_has ls 3 [(0, .ref x)] := hl
  refine lv_iconst (v := 0) hx hb dX11_lacks_0 (by decide) ?_
  refine lv_istore_n (lv' := [(1, .int 0), (0, .ref x)]) hx hb dX11_lacks_1 rfl hl (by decide) rfl (fun ls hl => ?_)
  refine lv_iconst (v := 0) hx hb dX11_lacks_2 (by decide) ?_
  refine lv_istore_n (lv' := [(2, .int 0), (1, .int 0), (0, .ref x)]) hx hb dX11_lacks_3 rfl hl (by decide) rfl (fun ls hl => ?_)
  refine lv_iload_n hx hb dX11_lacks_4 rfl (lv_at hl 0 rfl) ?_
  refine lv_aload_n hx hb dX11_lacks_5 rfl (lv_at hl 2 rfl) ?_
  refine fg_RX11_65 hC hw 0 rfl rfl dX11_lacks_6 ?_
  refine fg_RX11_108 hC hw 1 rfl rfl dX11_lacks_9 ?_
  refine lv_icmp_ge (tgt := 44) hx hb dX11_lacks_12 (by decide) (fun _ => ?_) (fun h => absurd (by decide) h)
  refine lv_aload_n hx hb dX11_lacks_44 rfl (lv_at hl 2 rfl) ?_
  refine fg_RX11_65 hC hw 0 rfl rfl dX11_lacks_45 ?_
  refine k_V (wr := [(x, .inr (10, [.ref x0, .ref x1, .ref x2, .ref x3, .ref x4, .ref x5, .ref x6, .ref x7, .ref x8, .ref x9, .ref x10]))]) 0 gw_958 gw_959 gw_960 gw_13 gw_961 hd_X0_allParts hC hw (c_X0_allParts γ l x9 x90 x91 x92 x93 x94 x95 x96 x97) ⟨by decide, by decide⟩ ⟨by decide, by decide⟩ hl.1 rfl 1 rfl rfl rfl (Nat.le_of_ble_eq_true rfl) [1] [0] rfl rfl rfl rfl (by decide) dX11_lacks_48 (fun r w1 H locs hq hw => ?_)
  obtain ⟨rfl, rfl⟩ := hq
  have hw : kW γ A [(x, .inr (10, [.ref x0, .ref x1, .ref x2, .ref x3, .ref x4, .ref x5, .ref x6, .ref x7, .ref x8, .ref x9, .ref x10])), (x9, .inr (0, [.ref x90, .ref x91, .ref x92, .ref x93, .ref x94, .ref x95, .ref x96, .ref x97, .int 0, .int 0, .int 10, .int 10, .int 3, .int 0, .int 0, .int 0, .int 0, .int 0, .int 0]))] s H locs := hw
  refine W.eq (g2 := F0 m 51 ls [.int 7]) rfl ?_
  refine lv_iload_n hx hb dX11_lacks_51 rfl (lv_at hl 1 rfl) ?_
  refine lv_iconst (v := (-1)) hx hb dX11_lacks_52 (by decide) ?_
  refine lv_ixor hx hb dX11_lacks_53 ?_
  refine lv_topi (fun x_608 ex_608 => ?_)
  obtain rfl : x_608 = (-1) := ex_608.trans (by decide)
  refine lv_iand hx hb dX11_lacks_54 ?_
  refine lv_topi (fun x_609 ex_609 => ?_)
  obtain rfl : x_609 = 7 := ex_609.trans (by decide)
  exact k_iret hC hr hlocks hw [0, 1] rfl rfl ⟨rfl, rfl⟩ (by decide) (by decide) dX11_lacks_55

set_option maxHeartbeats 4000000 in
set_option maxRecDepth 100000 in
theorem c_X11_partsOfAll (γ : kΓ) (l : Launch) (x : Nat) (x0 : Nat) (x1 : Nat) (x2 : Nat) (x3 : Nat) (x4 : Nat) (x5 : Nat) (x6 : Nat) (x7 : Nat) (x8 : Nat) (x9 : Nat) (x10 : Nat) (x90 : Nat) (x91 : Nat) (x92 : Nat) (x93 : Nat) (x94 : Nat) (x95 : Nat) (x96 : Nat) (x97 : Nat) (t : Int32) : kM γ l yX11_partsOfAll cX11_partsOfAll 4 ((some .int)) ({ frames := 0, cells := 0, slots := 0, locals := 0 } : Room) [.ref x, .int t] [(x, .inr (10, [.ref x0, .ref x1, .ref x2, .ref x3, .ref x4, .ref x5, .ref x6, .ref x7, .ref x8, .ref x9, .ref x10])), (x9, .inr (0, [.ref x90, .ref x91, .ref x92, .ref x93, .ref x94, .ref x95, .ref x96, .ref x97, .int 0, .int 0, .int 10, .int 10, .int 3, .int 0, .int 0, .int 0, .int 0, .int 0, .int 0]))] (fun r w1 => r = some (.int 0) ∧ w1 = [(x, .inr (10, [.ref x0, .ref x1, .ref x2, .ref x3, .ref x4, .ref x5, .ref x6, .ref x7, .ref x8, .ref x9, .ref x10])), (x9, .inr (0, [.ref x90, .ref x91, .ref x92, .ref x93, .ref x94, .ref x95, .ref x96, .ref x97, .int 0, .int 0, .int 10, .int 10, .int 3, .int 0, .int 0, .int 0, .int 0, .int 0, .int 0]))]) := by
  refine k_ofW (by decide) (Nat.le_of_ble_eq_true rfl) ?_
  intro p e s m below meth c A ls hC hr hlocks hname hw hl
  have hx := hC.1
  have hb := hC.2.1
  have hl : lv_has ls 4 [(0, .ref x), (1, .int t)] := hl
  refine lv_iconst (v := 0) hx hb dX11_partsOfAll_0 (by decide) ?_
  refine lv_istore_n (lv' := [(2, .int 0), (0, .ref x), (1, .int t)]) hx hb dX11_partsOfAll_1 rfl hl (by decide) rfl (fun ls hl => ?_)
  refine lv_iconst (v := 0) hx hb dX11_partsOfAll_2 (by decide) ?_
  refine lv_istore_n (lv' := [(3, .int 0), (2, .int 0), (0, .ref x), (1, .int t)]) hx hb dX11_partsOfAll_3 rfl hl (by decide) rfl (fun ls hl => ?_)
  refine lv_iload_n hx hb dX11_partsOfAll_4 rfl (lv_at hl 0 rfl) ?_
  refine lv_aload_n hx hb dX11_partsOfAll_5 rfl (lv_at hl 2 rfl) ?_
  refine fg_RX11_65 hC hw 0 rfl rfl dX11_partsOfAll_6 ?_
  refine fg_RX11_111 hC hw 1 rfl rfl dX11_partsOfAll_9 ?_
  refine lv_icmp_ge (tgt := 37) hx hb dX11_partsOfAll_12 (by decide) (fun _ => ?_) (fun h => absurd (by decide) h)
  refine lv_iload_n hx hb dX11_partsOfAll_37 rfl (lv_at hl 1 rfl) ?_
  exact k_iret hC hr hlocks hw [0, 1] rfl rfl ⟨rfl, rfl⟩ (by decide) (by decide) dX11_partsOfAll_38

set_option maxHeartbeats 4000000 in
set_option maxRecDepth 100000 in
theorem c_X11_givers (γ : kΓ) (l : Launch) (x : Nat) (x0 : Nat) (x1 : Nat) (x2 : Nat) (x3 : Nat) (x4 : Nat) (x5 : Nat) (x6 : Nat) (x7 : Nat) (x8 : Nat) (x9 : Nat) (x10 : Nat) (x90 : Nat) (x91 : Nat) (x92 : Nat) (x93 : Nat) (x94 : Nat) (x95 : Nat) (x96 : Nat) (x97 : Nat) (x2s : Nat) (x2y : Nat) (x2q : Nat) (x2s_l : Nat) (x2s_c : Nat) (x2s_g : Nat) (x2s_r : Nat) (x2s_k : Nat) (x2s_b : Nat) : kM γ l yX11_givers cX11_givers 5 ((some .int)) ({ frames := 2, cells := 0, slots := 0, locals := 42 } : Room) [.ref x] [(x, .inr (10, [.ref x0, .ref x1, .ref x2, .ref x3, .ref x4, .ref x5, .ref x6, .ref x7, .ref x8, .ref x9, .ref x10])), (x9, .inr (0, [.ref x90, .ref x91, .ref x92, .ref x93, .ref x94, .ref x95, .ref x96, .ref x97, .int 0, .int 0, .int 10, .int 10, .int 3, .int 0, .int 0, .int 0, .int 0, .int 0, .int 0])), (x2, .inr (3, [.ref x2s, .ref x2y, .ref x2q, .int 0, .int 0, .int 0])), (x2s, .inr (7, [.ref x2s_l, .ref x2s_c, .ref x2s_g, .ref x2s_r, .ref x2s_k, .ref x2s_b, .int 0, .int 0, .int 0]))] (fun r w1 => r = some (.int (-1)) ∧ w1 = []) := by
  refine k_ofW (by decide) (Nat.le_of_ble_eq_true rfl) ?_
  intro p e s m below meth c A ls hC hr hlocks hname hw hl
  have hx := hC.1
  have hb := hC.2.1
  have hl : lv_has ls 5 [(0, .ref x)] := hl
  refine lv_aload_n hx hb dX11_givers_0 rfl (lv_at hl 0 rfl) ?_
  refine k_V (wr := [(x2, .inr (3, [.ref x2s, .ref x2y, .ref x2q, .int 0, .int 0, .int 0])), (x2s, .inr (7, [.ref x2s_l, .ref x2s_c, .ref x2s_g, .ref x2s_r, .ref x2s_k, .ref x2s_b, .int 0, .int 0, .int 0]))]) 0 gw_966 gw_955 gw_956 gw_1 gw_957 hd_X11_lacks hC hw (c_X11_lacks γ l x x0 x1 x2 x3 x4 x5 x6 x7 x8 x9 x10 x90 x91 x92 x93 x94 x95 x96 x97) ⟨by decide, by decide⟩ ⟨by decide, by decide⟩ hl.1 rfl 0 rfl rfl rfl (Nat.le_of_ble_eq_true rfl) [0, 1] [2, 3] rfl rfl rfl rfl (by decide) dX11_givers_1 (fun r w1 H locs hq hw => ?_)
  obtain ⟨rfl, rfl⟩ := hq
  have hw : kW γ A [(x2, .inr (3, [.ref x2s, .ref x2y, .ref x2q, .int 0, .int 0, .int 0])), (x2s, .inr (7, [.ref x2s_l, .ref x2s_c, .ref x2s_g, .ref x2s_r, .ref x2s_k, .ref x2s_b, .int 0, .int 0, .int 0])), (x, .inr (10, [.ref x0, .ref x1, .ref x2, .ref x3, .ref x4, .ref x5, .ref x6, .ref x7, .ref x8, .ref x9, .ref x10])), (x9, .inr (0, [.ref x90, .ref x91, .ref x92, .ref x93, .ref x94, .ref x95, .ref x96, .ref x97, .int 0, .int 0, .int 10, .int 10, .int 3, .int 0, .int 0, .int 0, .int 0, .int 0, .int 0]))] s H locs := hw
  refine W.eq (g2 := F0 m 4 ls [.int 7]) rfl ?_
  refine lv_istore_n (lv' := [(1, .int 7), (0, .ref x)]) hx hb dX11_givers_4 rfl hl (by decide) rfl (fun ls hl => ?_)
  refine lv_iconst (v := (-1)) hx hb dX11_givers_5 (by decide) ?_
  refine lv_istore_n (lv' := [(2, .int (-1)), (1, .int 7), (0, .ref x)]) hx hb dX11_givers_6 rfl hl (by decide) rfl (fun ls hl => ?_)
  refine lv_iconst (v := 0) hx hb dX11_givers_7 (by decide) ?_
  refine lv_istore_n (lv' := [(3, .int 0), (2, .int (-1)), (1, .int 7), (0, .ref x)]) hx hb dX11_givers_8 rfl hl (by decide) rfl (fun ls hl => ?_)
  refine lv_iload_n hx hb dX11_givers_9 rfl (lv_at hl 0 rfl) ?_
  refine lv_iconst (v := 1) hx hb dX11_givers_10 (by decide) ?_
  refine lv_aload_n hx hb dX11_givers_11 rfl (lv_at hl 3 rfl) ?_
  refine fg_RX11_65 hC hw 2 rfl rfl dX11_givers_12 ?_
  refine fg_RX11_111 hC hw 3 rfl rfl dX11_givers_15 ?_
  refine lv_ishl hx hb dX11_givers_18 ?_
  refine lv_topi (fun x_610 ex_610 => ?_)
  obtain rfl : x_610 = 1 := ex_610.trans (by decide)
  refine lv_icmp_ge (tgt := 85) hx hb dX11_givers_19 (by decide) (fun h => absurd h (by decide)) (fun _ => ?_)
  refine lv_iload_n hx hb dX11_givers_22 rfl (lv_at hl 1 rfl) ?_
  refine lv_iconst (v := (-1)) hx hb dX11_givers_23 (by decide) ?_
  refine lv_icmp_eq (tgt := 38) hx hb dX11_givers_24 (by decide) (fun _ => ?_) (fun h => absurd (by decide) h)
  refine lv_iconst (v := 1) hx hb dX11_givers_38 (by decide) ?_
  refine lv_goto (tgt := 43) hx hb dX11_givers_39 (by decide) ?_
  refine lv_istore (lv' := [(4, .int 1), (3, .int 0), (2, .int (-1)), (1, .int 7), (0, .ref x)]) hx hb dX11_givers_43 hl (by decide) rfl (fun ls hl => ?_)
  refine lv_iload hx hb dX11_givers_45 (lv_at hl 0 rfl) ?_
  refine lv_if_eq (tgt := 79) hx hb dX11_givers_47 (by decide) (fun h => absurd h (by decide)) (fun _ => ?_)
  refine lv_iload_n hx hb dX11_givers_50 rfl (lv_at hl 1 rfl) ?_
  refine lv_aload_n hx hb dX11_givers_51 rfl (lv_at hl 4 rfl) ?_
  refine fg_RX11_26 hC hw 2 rfl rfl dX11_givers_52 ?_
  refine fg_RX11_131 hC hw 0 rfl rfl dX11_givers_55 ?_
  refine fg_RX11_176 hC hw 1 rfl rfl dX11_givers_58 ?_
  refine lv_iand hx hb dX11_givers_61 ?_
  refine lv_topi (fun x_611 ex_611 => ?_)
  obtain rfl : x_611 = 0 := ex_611.trans (by decide)
  refine lv_if_ne (tgt := 79) hx hb dX11_givers_62 (by decide) (fun h => absurd rfl h) (fun _ => ?_)
  refine lv_iload_n hx hb dX11_givers_65 rfl (lv_at hl 3 rfl) ?_
  refine lv_aload_n hx hb dX11_givers_66 rfl (lv_at hl 4 rfl) ?_
  refine lv_iload_n hx hb dX11_givers_67 rfl (lv_at hl 1 rfl) ?_
  refine k_V (wr := [(x2, .inr (3, [.ref x2s, .ref x2y, .ref x2q, .int 0, .int 0, .int 0])), (x2s, .inr (7, [.ref x2s_l, .ref x2s_c, .ref x2s_g, .ref x2s_r, .ref x2s_k, .ref x2s_b, .int 0, .int 0, .int 0]))]) 1 gw_967 gw_969 gp_40 gw_1 gw_970 hd_X11_partsOfAll hC hw (c_X11_partsOfAll γ l x x0 x1 x2 x3 x4 x5 x6 x7 x8 x9 x10 x90 x91 x92 x93 x94 x95 x96 x97 0) ⟨by decide, by decide⟩ ⟨by decide, by decide⟩ hl.1 rfl 2 rfl rfl rfl (Nat.le_of_ble_eq_true rfl) [2, 3] [0, 1] rfl rfl rfl rfl (by decide) dX11_givers_68 (fun r w1 H locs hq hw => ?_)
  obtain ⟨rfl, rfl⟩ := hq
  have hw : kW γ A [(x2, .inr (3, [.ref x2s, .ref x2y, .ref x2q, .int 0, .int 0, .int 0])), (x2s, .inr (7, [.ref x2s_l, .ref x2s_c, .ref x2s_g, .ref x2s_r, .ref x2s_k, .ref x2s_b, .int 0, .int 0, .int 0])), (x, .inr (10, [.ref x0, .ref x1, .ref x2, .ref x3, .ref x4, .ref x5, .ref x6, .ref x7, .ref x8, .ref x9, .ref x10])), (x9, .inr (0, [.ref x90, .ref x91, .ref x92, .ref x93, .ref x94, .ref x95, .ref x96, .ref x97, .int 0, .int 0, .int 10, .int 10, .int 3, .int 0, .int 0, .int 0, .int 0, .int 0, .int 0]))] s H locs := hw
  refine W.eq (g2 := F0 m 71 ls [.int 0, .int 7]) rfl ?_
  refine lv_iconst (v := (-1)) hx hb dX11_givers_71 (by decide) ?_
  refine lv_ixor hx hb dX11_givers_72 ?_
  refine lv_topi (fun x_612 ex_612 => ?_)
  obtain rfl : x_612 = (-1) := ex_612.trans (by decide)
  refine lv_iand hx hb dX11_givers_73 ?_
  refine lv_topi (fun x_613 ex_613 => ?_)
  obtain rfl : x_613 = 7 := ex_613.trans (by decide)
  refine lv_if_ne (tgt := 79) hx hb dX11_givers_74 (by decide) (fun _ => ?_) (fun h => absurd h (by decide))
  refine lv_iinc (v := 1) (lv' := [(3, .int 1), (4, .int 1), (2, .int (-1)), (1, .int 7), (0, .ref x)]) hx hb dX11_givers_79 hl (k := 1) rfl (by decide) (by decide) rfl (fun ls hl => ?_)
  refine lv_goto (tgt := 9) hx hb dX11_givers_82 (by decide) ?_
  refine lv_iload_n hx hb dX11_givers_9 rfl (lv_at hl 0 rfl) ?_
  refine lv_iconst (v := 1) hx hb dX11_givers_10 (by decide) ?_
  refine lv_aload_n hx hb dX11_givers_11 rfl (lv_at hl 4 rfl) ?_
  refine fg_RX11_65 hC hw 2 rfl rfl dX11_givers_12 ?_
  refine fg_RX11_111 hC hw 3 rfl rfl dX11_givers_15 ?_
  refine lv_ishl hx hb dX11_givers_18 ?_
  refine lv_topi (fun x_614 ex_614 => ?_)
  obtain rfl : x_614 = 1 := ex_614.trans (by decide)
  refine lv_icmp_ge (tgt := 85) hx hb dX11_givers_19 (by decide) (fun _ => ?_) (fun h => absurd (by decide) h)
  refine lv_iload_n hx hb dX11_givers_85 rfl (lv_at hl 2 rfl) ?_
  exact k_iret hC hr hlocks hw [] rfl rfl ⟨rfl, rfl⟩ (by decide) (by decide) dX11_givers_86

set_option maxHeartbeats 4000000 in
set_option maxRecDepth 100000 in
theorem c_X11_undo (γ : kΓ) (l : Launch) (x : Nat) (x0 : Nat) (x1 : Nat) (x2 : Nat) (x3 : Nat) (x4 : Nat) (x5 : Nat) (x6 : Nat) (x7 : Nat) (x8 : Nat) (x9 : Nat) (x10 : Nat) (x2s : Nat) (x2y : Nat) (x2q : Nat) (nx : Int32) (ua : Nat) : kM γ l yX11_undo cX11_undo 1 ((some .boolean)) ({ frames := 1, cells := 0, slots := 0, locals := 21 } : Room) [.ref x] [(x, .inr (10, [.ref x0, .ref x1, .ref x2, .ref x3, .ref x4, .ref x5, .ref x6, .ref x7, .ref x8, .ref x9, .ref x10])), (x1, .inr (9, [.ref ua, .int nx, .int 0])), (x2, .inr (3, [.ref x2s, .ref x2y, .ref x2q, .int 0, .int 0, .int 0]))] (fun r w1 => r = some (.int 0) ∧ w1 = []) := by
  refine k_ofW (by decide) (Nat.le_of_ble_eq_true rfl) ?_
  intro p e s m below meth c A ls hC hr hlocks hname hw hl
  have hx := hC.1
  have hb := hC.2.1
  have hl : lv_has ls 1 [(0, .ref x)] := hl
  refine lv_aload_n hx hb dX11_undo_0 rfl (lv_at hl 0 rfl) ?_
  refine fg_RX11_19 hC hw 0 rfl rfl dX11_undo_1 ?_
  refine lv_aload_n hx hb dX11_undo_4 rfl (lv_at hl 0 rfl) ?_
  refine fg_RX11_26 hC hw 0 rfl rfl dX11_undo_5 ?_
  refine fg_RX11_131 hC hw 2 rfl rfl dX11_undo_8 ?_
  refine k_V (wr := [(x, .inr (10, [.ref x0, .ref x1, .ref x2, .ref x3, .ref x4, .ref x5, .ref x6, .ref x7, .ref x8, .ref x9, .ref x10])), (x2, .inr (3, [.ref x2s, .ref x2y, .ref x2q, .int 0, .int 0, .int 0]))]) 1 gw_843 gw_844 gw_845 gw_5 gw_846 hd_X9_takeBack hC hw (c_X9_takeBack γ l x1 ua x2s nx) ⟨by decide, by decide⟩ ⟨by decide, by decide⟩ hl.1 rfl 1 rfl rfl rfl (Nat.le_of_ble_eq_true rfl) [1] [0, 2] rfl rfl rfl rfl (by decide) dX11_undo_11 (fun r w1 H locs hq hw => ?_)
  obtain ⟨rfl, rfl⟩ := hq
  have hw : kW γ A [(x, .inr (10, [.ref x0, .ref x1, .ref x2, .ref x3, .ref x4, .ref x5, .ref x6, .ref x7, .ref x8, .ref x9, .ref x10])), (x2, .inr (3, [.ref x2s, .ref x2y, .ref x2q, .int 0, .int 0, .int 0])), (x1, .inr (9, [.ref ua, .int nx, .int 0]))] s H locs := hw
  refine W.eq (g2 := F0 m 14 ls [.int 0]) rfl ?_
  exact k_zret hC hr hlocks rfl hw [] rfl rfl ⟨rfl, rfl⟩ (by decide) (by decide) dX11_undo_14

set_option maxHeartbeats 4000000 in
set_option maxRecDepth 100000 in
theorem c_X11_holders (γ : kΓ) (l : Launch) (x : Nat) (x0 : Nat) (x1 : Nat) (x2 : Nat) (x3 : Nat) (x4 : Nat) (x5 : Nat) (x6 : Nat) (x7 : Nat) (x8 : Nat) (x9 : Nat) (x10 : Nat) (x90 : Nat) (x91 : Nat) (x92 : Nat) (x93 : Nat) (x94 : Nat) (x95 : Nat) (x96 : Nat) (x97 : Nat) (t : Int32) : kM γ l yX11_holders cX11_holders 4 ((some .int)) ({ frames := 0, cells := 0, slots := 0, locals := 0 } : Room) [.ref x, .int t] [(x, .inr (10, [.ref x0, .ref x1, .ref x2, .ref x3, .ref x4, .ref x5, .ref x6, .ref x7, .ref x8, .ref x9, .ref x10])), (x9, .inr (0, [.ref x90, .ref x91, .ref x92, .ref x93, .ref x94, .ref x95, .ref x96, .ref x97, .int 0, .int 0, .int 10, .int 10, .int 3, .int 0, .int 0, .int 0, .int 0, .int 0, .int 0]))] (fun r w1 => ∃ (r9 : Int32), r = some (.int r9) ∧ w1 = [] ∧ (r9 = kholders t)) := by
  refine k_ofW (by decide) (Nat.le_of_ble_eq_true rfl) ?_
  intro p e s m below meth c A ls hC hr hlocks hname hw hl
  have hx := hC.1
  have hb := hC.2.1
  have hl : lv_has ls 4 [(0, .ref x), (1, .int t)] := hl
  refine lv_iload_n hx hb dX11_holders_0 rfl (lv_at hl 1 rfl) ?_
  refine lv_iconst (v := 1) hx hb dX11_holders_1 (by decide) ?_
  refine lv_icmp_lt (tgt := 11) hx hb dX11_holders_2 (by decide) (fun c1 => ?_) (fun c1 => ?_)
  · refine lv_iconst (v := (-1)) hx hb dX11_holders_11 (by decide) ?_
    exact k_iret hC hr hlocks hw [] rfl rfl ⟨(-1), rfl, rfl, (by unfold kholders; first | rw [if_pos c1] | rw [if_neg c1, if_pos (Int32.not_le.mp c2)] | rw [if_neg c1, if_neg (Int32.not_lt.mpr c2)])⟩ (by decide) (by decide) dX11_holders_12
  · refine lv_iload_n hx hb dX11_holders_5 rfl (lv_at hl 1 rfl) ?_
    refine lv_bipush (v := 6) hx hb dX11_holders_6 (by decide) ?_
    refine lv_icmp_le (tgt := 13) hx hb dX11_holders_8 (by decide) (fun c2 => ?_) (fun c2 => ?_)
    · refine lv_iconst (v := 0) hx hb dX11_holders_13 (by decide) ?_
      refine lv_istore_n (lv' := [(2, .int 0), (0, .ref x), (1, .int t)]) hx hb dX11_holders_14 rfl hl (by decide) rfl (fun ls hl => ?_)
      refine lv_iconst (v := 0) hx hb dX11_holders_15 (by decide) ?_
      refine lv_istore_n (lv' := [(3, .int 0), (2, .int 0), (0, .ref x), (1, .int t)]) hx hb dX11_holders_16 rfl hl (by decide) rfl (fun ls hl => ?_)
      refine lv_iload_n hx hb dX11_holders_17 rfl (lv_at hl 0 rfl) ?_
      refine lv_aload_n hx hb dX11_holders_18 rfl (lv_at hl 2 rfl) ?_
      refine fg_RX11_65 hC hw 0 rfl rfl dX11_holders_19 ?_
      refine fg_RX11_111 hC hw 1 rfl rfl dX11_holders_22 ?_
      refine lv_icmp_ge (tgt := 54) hx hb dX11_holders_25 (by decide) (fun _ => ?_) (fun h => absurd (by decide) h)
      refine lv_iload_n hx hb dX11_holders_54 rfl (lv_at hl 1 rfl) ?_
      exact k_iret hC hr hlocks hw [] rfl rfl ⟨0, rfl, rfl, (by unfold kholders; first | rw [if_pos c1] | rw [if_neg c1, if_pos (Int32.not_le.mp c2)] | rw [if_neg c1, if_neg (Int32.not_lt.mpr c2)])⟩ (by decide) (by decide) dX11_holders_55
    · refine lv_iconst (v := (-1)) hx hb dX11_holders_11 (by decide) ?_
      exact k_iret hC hr hlocks hw [] rfl rfl ⟨(-1), rfl, rfl, (by unfold kholders; first | rw [if_pos c1] | rw [if_neg c1, if_pos (Int32.not_le.mp c2)] | rw [if_neg c1, if_neg (Int32.not_lt.mpr c2)])⟩ (by decide) (by decide) dX11_holders_12

set_option maxHeartbeats 4000000 in
set_option maxRecDepth 100000 in
theorem c_X4_pairFrom (γ : kΓ) (l : Launch) (h : Nat) (hc : Nat) (ht : Nat) (hd : Nat) (fc : Nat → Int32) (ft : Nat → Int32) : kM γ l yX4_pairFrom cX4_pairFrom 5 none ({ frames := 1, cells := 0, slots := 0, locals := 80 } : Room) [.ref h, .int 0, .int 0, .int 0] [(h, .inr (4, [.ref hc, .ref ht, .ref hd, .int 0, .int (-1)])), (hc, .inl (γ.2.1 0, 5, .inl fc)), (ht, .inl (γ.2.1 0, 5, .inl ft))] (fun r w1 => ∃ (gc : Nat → Int32), r = none ∧ w1 = [(h, .inr (4, [.ref hc, .ref ht, .ref hd, .int 0, .int 0])), (hc, .inl (γ.2.1 0, 5, .inl gc)), (ht, .inl (γ.2.1 0, 5, .inl ft))]) := by
  refine k_ofW (by decide) (Nat.le_of_ble_eq_true rfl) ?_
  intro p e s m below meth c A ls hC hr hlocks hname hw hl
  have hx := hC.1
  have hb := hC.2.1
  have hl : lv_has ls 5 [(0, .ref h), (1, .int 0), (2, .int 0), (3, .int 0)] := hl
  refine lv_iload_n hx hb dX4_pairFrom_0 rfl (lv_at hl 1 rfl) ?_
  refine lv_aload_n hx hb dX4_pairFrom_1 rfl (lv_at hl 0 rfl) ?_
  refine fg_RX4_27 hC hw 0 rfl rfl dX4_pairFrom_2 ?_
  refine lv_icmp_lt (tgt := 36) hx hb dX4_pairFrom_5 (by decide) (fun h => absurd h (by decide)) (fun _ => ?_)
  refine lv_iload_n hx hb dX4_pairFrom_8 rfl (lv_at hl 3 rfl) ?_
  refine lv_aload_n hx hb dX4_pairFrom_9 rfl (lv_at hl 0 rfl) ?_
  refine fg_RX4_34 hC hw 0 rfl rfl dX4_pairFrom_10 ?_
  refine lv_icmp_le (tgt := 35) hx hb dX4_pairFrom_13 (by decide) (fun h => absurd h (by decide)) (fun _ => ?_)
  refine lv_aload_n hx hb dX4_pairFrom_16 rfl (lv_at hl 0 rfl) ?_
  refine lv_iload_n hx hb dX4_pairFrom_17 rfl (lv_at hl 3 rfl) ?_
  refine fs_RX4_34 hC hw 0 rfl rfl rfl (Nat.le_of_ble_eq_true rfl) dX4_pairFrom_18 (fun H locs hw => ?_)
  have hw : kW γ A [(h, .inr (4, [.ref hc, .ref ht, .ref hd, .int 0, .int 0])), (hc, .inl (γ.2.1 0, 5, .inl fc)), (ht, .inl (γ.2.1 0, 5, .inl ft))] s H locs := hw
  refine lv_aload_n hx hb dX4_pairFrom_21 rfl (lv_at hl 0 rfl) ?_
  refine fg_RX4_15 hC hw 0 rfl rfl dX4_pairFrom_22 ?_
  refine lv_iconst (v := 0) hx hb dX4_pairFrom_25 (by decide) ?_
  refine lv_aload_n hx hb dX4_pairFrom_26 rfl (lv_at hl 0 rfl) ?_
  refine fg_RX4_9 hC hw 0 rfl rfl dX4_pairFrom_27 ?_
  refine lv_iconst (v := 0) hx hb dX4_pairFrom_30 (by decide) ?_
  refine lv_iconst (v := 5) hx hb dX4_pairFrom_31 (by decide) ?_
  refine k_copyi hC hw gw_996 hl.1 2 1 rfl rfl (by decide) (by decide) (by decide) (by decide) (by decide) (by decide) (by decide) dX4_pairFrom_32 (fun H locs hw => ?_)
  obtain ⟨f_615, ef_615⟩ : ∃ g, g = va_cpy ft fc (0 : Int32).toNatClampNeg (0 : Int32).toNatClampNeg (5 : Int32).toNatClampNeg := ⟨_, rfl⟩
  have hw : kW γ A [(h, .inr (4, [.ref hc, .ref ht, .ref hd, .int 0, .int 0])), (hc, .inl (γ.2.1 0, 5, .inl f_615)), (ht, .inl (γ.2.1 0, 5, .inl ft))] s H locs := by rw [ef_615]; exact hw
  refine W.eq (g2 := F0 m 35 ls []) rfl ?_
  exact k_vret hC hr hlocks hw [0, 1, 2] rfl rfl ⟨f_615, rfl, rfl⟩ (by decide) (by decide) dX4_pairFrom_35

set_option maxHeartbeats 4000000 in
set_option maxRecDepth 100000 in
theorem c_X4_find (γ : kΓ) (l : Launch) (h : Nat) (hc : Nat) (ht : Nat) (hd : Nat) (fc : Nat → Int32) (ft : Nat → Int32) (b : Nat) (b0 : Nat) (b1 : Nat) (b2 : Nat) (b3 : Nat) (b4 : Nat) (b5 : Nat) (b6 : Nat) (b7 : Nat) (o : Nat) : kM γ l yX4_find cX4_find 4 none ({ frames := 2, cells := 0, slots := 0, locals := 104 } : Room) [.ref h, .ref b, .ref o] [(h, .inr (4, [.ref hc, .ref ht, .ref hd, .int 0, .int 0])), (hc, .inl (γ.2.1 0, 5, .inl fc)), (ht, .inl (γ.2.1 0, 5, .inl ft)), (b, .inr (0, [.ref b0, .ref b1, .ref b2, .ref b3, .ref b4, .ref b5, .ref b6, .ref b7, .int 0, .int 0, .int 10, .int 10, .int 3, .int 0, .int 0, .int 0, .int 0, .int 0, .int 0]))] (fun r w1 => ∃ (gc : Nat → Int32), r = none ∧ w1 = [(h, .inr (4, [.ref hc, .ref ht, .ref hd, .int 0, .int 0])), (hc, .inl (γ.2.1 0, 5, .inl gc)), (ht, .inl (γ.2.1 0, 5, .inl ft))]) := by
  refine k_ofW (by decide) (Nat.le_of_ble_eq_true rfl) ?_
  intro p e s m below meth c A ls hC hr hlocks hname hw hl
  have hx := hC.1
  have hb := hC.2.1
  have hl : lv_has ls 4 [(0, .ref h), (1, .ref b), (2, .ref o)] := hl
  refine lv_aload_n hx hb dX4_find_0 rfl (lv_at hl 0 rfl) ?_
  refine lv_aload_n hx hb dX4_find_1 rfl (lv_at hl 1 rfl) ?_
  refine fg_RX4_21 hC hw 3 rfl rfl dX4_find_2 ?_
  refine fs_RX4_27 hC hw 0 rfl rfl rfl (Nat.le_of_ble_eq_true rfl) dX4_find_5 (fun H locs hw => ?_)
  have hw : kW γ A [(h, .inr (4, [.ref hc, .ref ht, .ref hd, .int 0, .int 0])), (hc, .inl (γ.2.1 0, 5, .inl fc)), (ht, .inl (γ.2.1 0, 5, .inl ft)), (b, .inr (0, [.ref b0, .ref b1, .ref b2, .ref b3, .ref b4, .ref b5, .ref b6, .ref b7, .int 0, .int 0, .int 10, .int 10, .int 3, .int 0, .int 0, .int 0, .int 0, .int 0, .int 0]))] s H locs := hw
  refine lv_iconst (v := 0) hx hb dX4_find_8 (by decide) ?_
  refine lv_istore_n (lv' := [(3, .int 0), (0, .ref h), (1, .ref b), (2, .ref o)]) hx hb dX4_find_9 rfl hl (by decide) rfl (fun ls hl => ?_)
  refine lv_iload_n hx hb dX4_find_10 rfl (lv_at hl 0 rfl) ?_
  refine lv_aload_n hx hb dX4_find_11 rfl (lv_at hl 1 rfl) ?_
  refine fg_RX4_27 hC hw 0 rfl rfl dX4_find_12 ?_
  refine lv_icmp_ge (tgt := 36) hx hb dX4_find_15 (by decide) (fun _ => ?_) (fun h => absurd (by decide) h)
  refine lv_aload_n hx hb dX4_find_36 rfl (lv_at hl 1 rfl) ?_
  refine lv_iconst (v := (-1)) hx hb dX4_find_37 (by decide) ?_
  refine fs_RX4_34 hC hw 0 rfl rfl rfl (Nat.le_of_ble_eq_true rfl) dX4_find_38 (fun H locs hw => ?_)
  have hw : kW γ A [(h, .inr (4, [.ref hc, .ref ht, .ref hd, .int 0, .int (-1)])), (hc, .inl (γ.2.1 0, 5, .inl fc)), (ht, .inl (γ.2.1 0, 5, .inl ft)), (b, .inr (0, [.ref b0, .ref b1, .ref b2, .ref b3, .ref b4, .ref b5, .ref b6, .ref b7, .int 0, .int 0, .int 10, .int 10, .int 3, .int 0, .int 0, .int 0, .int 0, .int 0, .int 0]))] s H locs := hw
  refine lv_aload_n hx hb dX4_find_41 rfl (lv_at hl 1 rfl) ?_
  refine lv_iconst (v := 0) hx hb dX4_find_42 (by decide) ?_
  refine lv_iconst (v := 0) hx hb dX4_find_43 (by decide) ?_
  refine lv_iconst (v := 0) hx hb dX4_find_44 (by decide) ?_
  refine k_V (wr := [(b, .inr (0, [.ref b0, .ref b1, .ref b2, .ref b3, .ref b4, .ref b5, .ref b6, .ref b7, .int 0, .int 0, .int 10, .int 10, .int 3, .int 0, .int 0, .int 0, .int 0, .int 0, .int 0]))]) 3 gw_992 gw_994 gp_41 gw_12 gw_995 hd_X4_pairFrom hC hw (c_X4_pairFrom γ l h hc ht hd fc ft) ⟨by decide, by decide⟩ ⟨by decide, by decide⟩ hl.1 rfl 0 rfl rfl rfl (Nat.le_of_ble_eq_true rfl) [0, 1, 2] [3] rfl rfl rfl rfl (by decide) dX4_find_45 (fun r w1 H locs hq hw => ?_)
  obtain ⟨gc_616, rfl, rfl⟩ := hq
  have hw : kW γ A [(b, .inr (0, [.ref b0, .ref b1, .ref b2, .ref b3, .ref b4, .ref b5, .ref b6, .ref b7, .int 0, .int 0, .int 10, .int 10, .int 3, .int 0, .int 0, .int 0, .int 0, .int 0, .int 0])), (h, .inr (4, [.ref hc, .ref ht, .ref hd, .int 0, .int 0])), (hc, .inl (γ.2.1 0, 5, .inl gc_616)), (ht, .inl (γ.2.1 0, 5, .inl ft))] s H locs := hw
  refine W.eq (g2 := F0 m 48 ls []) rfl ?_
  exact k_vret hC hr hlocks hw [1, 2, 3] rfl rfl ⟨gc_616, rfl, rfl⟩ (by decide) (by decide) dX4_find_48


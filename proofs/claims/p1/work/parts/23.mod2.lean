theorem dX12_isThought_0 : decode cX12_isThought 0 = .ok (.iload_n 1, 1) := by decide +kernel
theorem dX12_isThought_1 : decode cX12_isThought 1 = .ok (.ifCond .lt 17, 3) := by decide +kernel
theorem dX12_isThought_4 : decode cX12_isThought 4 = .ok (.iload_n 1, 1) := by decide +kernel
theorem dX12_isThought_5 : decode cX12_isThought 5 = .ok (.aload_n 0, 1) := by decide +kernel
theorem dX12_isThought_6 : decode cX12_isThought 6 = .ok (.getfield 13, 3) := by decide +kernel
theorem dX12_isThought_9 : decode cX12_isThought 9 = .ok (.iconst 0, 1) := by decide +kernel
theorem dX12_isThought_10 : decode cX12_isThought 10 = .ok (.iaload, 1) := by decide +kernel
theorem dX12_isThought_11 : decode cX12_isThought 11 = .ok (.if_icmp .ge 7, 3) := by decide +kernel
theorem dX12_isThought_14 : decode cX12_isThought 14 = .ok (.iconst 1, 1) := by decide +kernel
theorem dX12_isThought_15 : decode cX12_isThought 15 = .ok (.goto 4, 3) := by decide +kernel
theorem dX12_isThought_18 : decode cX12_isThought 18 = .ok (.iconst 0, 1) := by decide +kernel
theorem dX12_isThought_19 : decode cX12_isThought 19 = .ok (.ireturn, 1) := by decide +kernel
theorem dX12_isTenant_0 : decode cX12_isTenant 0 = .ok (.iload_n 1, 1) := by decide +kernel
theorem dX12_isTenant_1 : decode cX12_isTenant 1 = .ok (.ifCond .lt 17, 3) := by decide +kernel
theorem dX12_isTenant_4 : decode cX12_isTenant 4 = .ok (.iload_n 1, 1) := by decide +kernel
theorem dX12_isTenant_5 : decode cX12_isTenant 5 = .ok (.aload_n 0, 1) := by decide +kernel
theorem dX12_isTenant_6 : decode cX12_isTenant 6 = .ok (.getfield 13, 3) := by decide +kernel
theorem dX12_isTenant_9 : decode cX12_isTenant 9 = .ok (.iconst 1, 1) := by decide +kernel
theorem dX12_isTenant_10 : decode cX12_isTenant 10 = .ok (.iaload, 1) := by decide +kernel
theorem dX12_isTenant_11 : decode cX12_isTenant 11 = .ok (.if_icmp .ge 7, 3) := by decide +kernel
theorem dX12_isTenant_14 : decode cX12_isTenant 14 = .ok (.iconst 1, 1) := by decide +kernel
theorem dX12_isTenant_15 : decode cX12_isTenant 15 = .ok (.goto 4, 3) := by decide +kernel
theorem dX12_isTenant_18 : decode cX12_isTenant 18 = .ok (.iconst 0, 1) := by decide +kernel
theorem dX12_isTenant_19 : decode cX12_isTenant 19 = .ok (.ireturn, 1) := by decide +kernel
theorem dX12_thought_0 : decode cX12_thought 0 = .ok (.aload_n 0, 1) := by decide +kernel
theorem dX12_thought_1 : decode cX12_thought 1 = .ok (.iconst 0, 1) := by decide +kernel
theorem dX12_thought_2 : decode cX12_thought 2 = .ok (.putfield 143, 3) := by decide +kernel
theorem dX12_thought_5 : decode cX12_thought 5 = .ok (.aload_n 0, 1) := by decide +kernel
theorem dX12_thought_6 : decode cX12_thought 6 = .ok (.iload_n 1, 1) := by decide +kernel
theorem dX12_thought_7 : decode cX12_thought 7 = .ok (.invokevirtual 384, 3) := by decide +kernel
theorem dX12_thought_10 : decode cX12_thought 10 = .ok (.ifCond .eq 12, 3) := by decide +kernel
theorem dX12_thought_13 : decode cX12_thought 13 = .ok (.iload_n 2, 1) := by decide +kernel
theorem dX12_thought_14 : decode cX12_thought 14 = .ok (.iconst 0, 1) := by decide +kernel
theorem dX12_thought_15 : decode cX12_thought 15 = .ok (.iconst 3, 1) := by decide +kernel
theorem dX12_thought_16 : decode cX12_thought 16 = .ok (.invokestatic 262, 3) := by decide +kernel
theorem dX12_thought_19 : decode cX12_thought 19 = .ok (.ifCond .ne 5, 3) := by decide +kernel
theorem dX12_thought_22 : decode cX12_thought 22 = .ok (.iconst (-1), 1) := by decide +kernel
theorem dX12_thought_23 : decode cX12_thought 23 = .ok (.ireturn, 1) := by decide +kernel
theorem dX12_thought_24 : decode cX12_thought 24 = .ok (.iload_n 2, 1) := by decide +kernel
theorem dX12_thought_25 : decode cX12_thought 25 = .ok (.ifCond .ne 12, 3) := by decide +kernel
theorem dX12_thought_28 : decode cX12_thought 28 = .ok (.aload_n 0, 1) := by decide +kernel
theorem dX12_thought_29 : decode cX12_thought 29 = .ok (.getfield 23, 3) := by decide +kernel
theorem dX12_thought_32 : decode cX12_thought 32 = .ok (.iload_n 1, 1) := by decide +kernel
theorem dX12_thought_33 : decode cX12_thought 33 = .ok (.iaload, 1) := by decide +kernel
theorem dX12_thought_34 : decode cX12_thought 34 = .ok (.goto 40, 3) := by decide +kernel
theorem dX12_thought_37 : decode cX12_thought 37 = .ok (.iload_n 2, 1) := by decide +kernel
theorem dX12_thought_38 : decode cX12_thought 38 = .ok (.iconst 1, 1) := by decide +kernel
theorem dX12_thought_39 : decode cX12_thought 39 = .ok (.if_icmp .ne 12, 3) := by decide +kernel
theorem dX12_thought_42 : decode cX12_thought 42 = .ok (.aload_n 0, 1) := by decide +kernel
theorem dX12_thought_43 : decode cX12_thought 43 = .ok (.getfield 26, 3) := by decide +kernel
theorem dX12_thought_46 : decode cX12_thought 46 = .ok (.iload_n 1, 1) := by decide +kernel
theorem dX12_thought_47 : decode cX12_thought 47 = .ok (.iaload, 1) := by decide +kernel
theorem dX12_thought_48 : decode cX12_thought 48 = .ok (.goto 26, 3) := by decide +kernel
theorem dX12_thought_51 : decode cX12_thought 51 = .ok (.iload_n 2, 1) := by decide +kernel
theorem dX12_thought_52 : decode cX12_thought 52 = .ok (.iconst 2, 1) := by decide +kernel
theorem dX12_thought_53 : decode cX12_thought 53 = .ok (.if_icmp .ne 12, 3) := by decide +kernel
theorem dX12_thought_56 : decode cX12_thought 56 = .ok (.aload_n 0, 1) := by decide +kernel
theorem dX12_thought_57 : decode cX12_thought 57 = .ok (.getfield 29, 3) := by decide +kernel
theorem dX12_thought_60 : decode cX12_thought 60 = .ok (.iload_n 1, 1) := by decide +kernel
theorem dX12_thought_61 : decode cX12_thought 61 = .ok (.iaload, 1) := by decide +kernel
theorem dX12_thought_62 : decode cX12_thought 62 = .ok (.goto 12, 3) := by decide +kernel
theorem dX12_thought_65 : decode cX12_thought 65 = .ok (.aload_n 0, 1) := by decide +kernel
theorem dX12_thought_66 : decode cX12_thought 66 = .ok (.getfield 102, 3) := by decide +kernel
theorem dX12_thought_69 : decode cX12_thought 69 = .ok (.bipush 125, 2) := by decide +kernel
theorem dX12_thought_71 : decode cX12_thought 71 = .ok (.iload_n 1, 1) := by decide +kernel
theorem dX12_thought_72 : decode cX12_thought 72 = .ok (.iadd, 1) := by decide +kernel
theorem dX12_thought_73 : decode cX12_thought 73 = .ok (.iaload, 1) := by decide +kernel
theorem dX12_thought_74 : decode cX12_thought 74 = .ok (.ireturn, 1) := by decide +kernel
theorem dX12_tenant_0 : decode cX12_tenant 0 = .ok (.aload_n 0, 1) := by decide +kernel
theorem dX12_tenant_1 : decode cX12_tenant 1 = .ok (.iconst 0, 1) := by decide +kernel
theorem dX12_tenant_2 : decode cX12_tenant 2 = .ok (.putfield 143, 3) := by decide +kernel
theorem dX12_tenant_5 : decode cX12_tenant 5 = .ok (.aload_n 0, 1) := by decide +kernel
theorem dX12_tenant_6 : decode cX12_tenant 6 = .ok (.iload_n 1, 1) := by decide +kernel
theorem dX12_tenant_7 : decode cX12_tenant 7 = .ok (.invokevirtual 387, 3) := by decide +kernel
theorem dX12_tenant_10 : decode cX12_tenant 10 = .ok (.ifCond .eq 12, 3) := by decide +kernel
theorem dX12_tenant_13 : decode cX12_tenant 13 = .ok (.iload_n 2, 1) := by decide +kernel
theorem dX12_tenant_14 : decode cX12_tenant 14 = .ok (.iconst 0, 1) := by decide +kernel
theorem dX12_tenant_15 : decode cX12_tenant 15 = .ok (.iconst 5, 1) := by decide +kernel
theorem dX12_tenant_16 : decode cX12_tenant 16 = .ok (.invokestatic 262, 3) := by decide +kernel
theorem dX12_tenant_19 : decode cX12_tenant 19 = .ok (.ifCond .ne 7, 3) := by decide +kernel
theorem dX12_tenant_22 : decode cX12_tenant 22 = .ok (.sipush (-1000), 3) := by decide +kernel
theorem dX12_tenant_25 : decode cX12_tenant 25 = .ok (.ireturn, 1) := by decide +kernel
theorem dX12_tenant_26 : decode cX12_tenant 26 = .ok (.iload_n 2, 1) := by decide +kernel
theorem dX12_tenant_27 : decode cX12_tenant 27 = .ok (.iconst 2, 1) := by decide +kernel
theorem dX12_tenant_28 : decode cX12_tenant 28 = .ok (.if_icmp .ge 25, 3) := by decide +kernel
theorem dX12_tenant_31 : decode cX12_tenant 31 = .ok (.iload_n 2, 1) := by decide +kernel
theorem dX12_tenant_32 : decode cX12_tenant 32 = .ok (.ifCond .ne 12, 3) := by decide +kernel
theorem dX12_tenant_35 : decode cX12_tenant 35 = .ok (.aload_n 0, 1) := by decide +kernel
theorem dX12_tenant_36 : decode cX12_tenant 36 = .ok (.getfield 32, 3) := by decide +kernel
theorem dX12_tenant_39 : decode cX12_tenant 39 = .ok (.iload_n 1, 1) := by decide +kernel
theorem dX12_tenant_40 : decode cX12_tenant 40 = .ok (.iaload, 1) := by decide +kernel
theorem dX12_tenant_41 : decode cX12_tenant 41 = .ok (.goto 11, 3) := by decide +kernel
theorem dX12_tenant_44 : decode cX12_tenant 44 = .ok (.aload_n 0, 1) := by decide +kernel
theorem dX12_tenant_45 : decode cX12_tenant 45 = .ok (.iload_n 1, 1) := by decide +kernel
theorem dX12_tenant_46 : decode cX12_tenant 46 = .ok (.iconst 0, 1) := by decide +kernel
theorem dX12_tenant_47 : decode cX12_tenant 47 = .ok (.invokevirtual 349, 3) := by decide +kernel
theorem dX12_tenant_50 : decode cX12_tenant 50 = .ok (.iconst 1, 1) := by decide +kernel
theorem dX12_tenant_51 : decode cX12_tenant 51 = .ok (.isub, 1) := by decide +kernel
theorem dX12_tenant_52 : decode cX12_tenant 52 = .ok (.ireturn, 1) := by decide +kernel
theorem dX12_tenant_53 : decode cX12_tenant 53 = .ok (.iload_n 2, 1) := by decide +kernel
theorem dX12_tenant_54 : decode cX12_tenant 54 = .ok (.iconst 5, 1) := by decide +kernel
theorem dX12_tenant_55 : decode cX12_tenant 55 = .ok (.if_icmp .ne 11, 3) := by decide +kernel
theorem dX12_tenant_58 : decode cX12_tenant 58 = .ok (.aload_n 0, 1) := by decide +kernel
theorem dX12_tenant_59 : decode cX12_tenant 59 = .ok (.iload_n 1, 1) := by decide +kernel
theorem dX12_tenant_60 : decode cX12_tenant 60 = .ok (.invokevirtual 390, 3) := by decide +kernel
theorem dX12_tenant_63 : decode cX12_tenant 63 = .ok (.goto 11, 3) := by decide +kernel
theorem dX12_tenant_66 : decode cX12_tenant 66 = .ok (.aload_n 0, 1) := by decide +kernel
theorem dX12_tenant_67 : decode cX12_tenant 67 = .ok (.iload_n 1, 1) := by decide +kernel
theorem dX12_tenant_68 : decode cX12_tenant 68 = .ok (.iload_n 2, 1) := by decide +kernel
theorem dX12_tenant_69 : decode cX12_tenant 69 = .ok (.iconst 1, 1) := by decide +kernel
theorem dX12_tenant_70 : decode cX12_tenant 70 = .ok (.isub, 1) := by decide +kernel
theorem dX12_tenant_71 : decode cX12_tenant 71 = .ok (.invokevirtual 349, 3) := by decide +kernel
theorem dX12_tenant_74 : decode cX12_tenant 74 = .ok (.ireturn, 1) := by decide +kernel
theorem dX12_keeps_0 : decode cX12_keeps 0 = .ok (.aload_n 0, 1) := by decide +kernel
theorem dX12_keeps_1 : decode cX12_keeps 1 = .ok (.iconst 0, 1) := by decide +kernel
theorem dX12_keeps_2 : decode cX12_keeps 2 = .ok (.putfield 143, 3) := by decide +kernel
theorem dX12_keeps_5 : decode cX12_keeps 5 = .ok (.aload_n 0, 1) := by decide +kernel
theorem dX12_keeps_6 : decode cX12_keeps 6 = .ok (.iload_n 1, 1) := by decide +kernel
theorem dX12_keeps_7 : decode cX12_keeps 7 = .ok (.invokevirtual 387, 3) := by decide +kernel
theorem dX12_keeps_10 : decode cX12_keeps 10 = .ok (.ifCond .eq 22, 3) := by decide +kernel
theorem dX12_keeps_13 : decode cX12_keeps 13 = .ok (.aload_n 0, 1) := by decide +kernel
theorem dX12_keeps_14 : decode cX12_keeps 14 = .ok (.iload_n 2, 1) := by decide +kernel
theorem dX12_keeps_15 : decode cX12_keeps 15 = .ok (.invokevirtual 384, 3) := by decide +kernel
theorem dX12_keeps_18 : decode cX12_keeps 18 = .ok (.ifCond .eq 14, 3) := by decide +kernel
theorem dX12_keeps_21 : decode cX12_keeps 21 = .ok (.aload_n 0, 1) := by decide +kernel
theorem dX12_keeps_22 : decode cX12_keeps 22 = .ok (.iload_n 1, 1) := by decide +kernel
theorem dX12_keeps_23 : decode cX12_keeps 23 = .ok (.iconst 5, 1) := by decide +kernel
theorem dX12_keeps_24 : decode cX12_keeps 24 = .ok (.iload_n 2, 1) := by decide +kernel
theorem dX12_keeps_25 : decode cX12_keeps 25 = .ok (.iadd, 1) := by decide +kernel
theorem dX12_keeps_26 : decode cX12_keeps 26 = .ok (.invokevirtual 349, 3) := by decide +kernel
theorem dX12_keeps_29 : decode cX12_keeps 29 = .ok (.goto 4, 3) := by decide +kernel
theorem dX12_keeps_32 : decode cX12_keeps 32 = .ok (.iconst (-1), 1) := by decide +kernel
theorem dX12_keeps_33 : decode cX12_keeps 33 = .ok (.ireturn, 1) := by decide +kernel
theorem dX12_think_0 : decode cX12_think 0 = .ok (.aload_n 0, 1) := by decide +kernel
theorem dX12_think_1 : decode cX12_think 1 = .ok (.iconst 0, 1) := by decide +kernel
theorem dX12_think_2 : decode cX12_think 2 = .ok (.putfield 143, 3) := by decide +kernel
theorem dX12_think_5 : decode cX12_think 5 = .ok (.aload_n 0, 1) := by decide +kernel
theorem dX12_think_6 : decode cX12_think 6 = .ok (.iload_n 1, 1) := by decide +kernel
theorem dX12_think_7 : decode cX12_think 7 = .ok (.invokevirtual 387, 3) := by decide +kernel
theorem dX12_think_10 : decode cX12_think 10 = .ok (.ifCond .eq 23, 3) := by decide +kernel
theorem dX12_think_13 : decode cX12_think 13 = .ok (.aload_n 0, 1) := by decide +kernel
theorem dX12_think_14 : decode cX12_think 14 = .ok (.iload_n 2, 1) := by decide +kernel
theorem dX12_think_15 : decode cX12_think 15 = .ok (.invokevirtual 384, 3) := by decide +kernel
theorem dX12_think_18 : decode cX12_think 18 = .ok (.ifCond .eq 15, 3) := by decide +kernel
theorem dX12_think_21 : decode cX12_think 21 = .ok (.aload_n 0, 1) := by decide +kernel
theorem dX12_think_22 : decode cX12_think 22 = .ok (.iload_n 1, 1) := by decide +kernel
theorem dX12_think_23 : decode cX12_think 23 = .ok (.invokevirtual 390, 3) := by decide +kernel
theorem dX12_think_26 : decode cX12_think 26 = .ok (.iload_n 2, 1) := by decide +kernel
theorem dX12_think_27 : decode cX12_think 27 = .ok (.ishr, 1) := by decide +kernel
theorem dX12_think_28 : decode cX12_think 28 = .ok (.iconst 1, 1) := by decide +kernel
theorem dX12_think_29 : decode cX12_think 29 = .ok (.iand, 1) := by decide +kernel
theorem dX12_think_30 : decode cX12_think 30 = .ok (.ifCond .ne 5, 3) := by decide +kernel
theorem dX12_think_33 : decode cX12_think 33 = .ok (.iconst (-1), 1) := by decide +kernel
theorem dX12_think_34 : decode cX12_think 34 = .ok (.ireturn, 1) := by decide +kernel
theorem dX12_think_35 : decode cX12_think 35 = .ok (.aload_n 0, 1) := by decide +kernel
theorem dX12_think_36 : decode cX12_think 36 = .ok (.invokevirtual 397, 3) := by decide +kernel
theorem dX12_think_39 : decode cX12_think 39 = .ok (.aload_n 0, 1) := by decide +kernel
theorem dX12_think_40 : decode cX12_think 40 = .ok (.aload_n 0, 1) := by decide +kernel
theorem dX12_think_41 : decode cX12_think 41 = .ok (.getfield 13, 3) := by decide +kernel
theorem dX12_think_44 : decode cX12_think 44 = .ok (.iconst 2, 1) := by decide +kernel
theorem dX12_think_45 : decode cX12_think 45 = .ok (.iaload, 1) := by decide +kernel
theorem dX12_think_46 : decode cX12_think 46 = .ok (.putfield 120, 3) := by decide +kernel
theorem dX12_think_49 : decode cX12_think 49 = .ok (.aload_n 0, 1) := by decide +kernel
theorem dX12_think_50 : decode cX12_think 50 = .ok (.iload_n 1, 1) := by decide +kernel
theorem dX12_think_51 : decode cX12_think 51 = .ok (.iload_n 2, 1) := by decide +kernel
theorem dX12_think_52 : decode cX12_think 52 = .ok (.invokevirtual 400, 3) := by decide +kernel
theorem dX12_think_55 : decode cX12_think 55 = .ok (.ireturn, 1) := by decide +kernel
theorem dX12_pool_0 : decode cX12_pool 0 = .ok (.aload_n 0, 1) := by decide +kernel
theorem dX12_pool_1 : decode cX12_pool 1 = .ok (.iconst 0, 1) := by decide +kernel
theorem dX12_pool_2 : decode cX12_pool 2 = .ok (.putfield 143, 3) := by decide +kernel
theorem dX12_pool_5 : decode cX12_pool 5 = .ok (.aload_n 0, 1) := by decide +kernel
theorem dX12_pool_6 : decode cX12_pool 6 = .ok (.iload_n 1, 1) := by decide +kernel
theorem dX12_pool_7 : decode cX12_pool 7 = .ok (.invokevirtual 387, 3) := by decide +kernel
theorem dX12_pool_10 : decode cX12_pool 10 = .ok (.ifCond .eq 20, 3) := by decide +kernel
theorem dX12_pool_13 : decode cX12_pool 13 = .ok (.aload_n 0, 1) := by decide +kernel
theorem dX12_pool_14 : decode cX12_pool 14 = .ok (.iload_n 2, 1) := by decide +kernel
theorem dX12_pool_15 : decode cX12_pool 15 = .ok (.invokevirtual 384, 3) := by decide +kernel
theorem dX12_pool_18 : decode cX12_pool 18 = .ok (.ifCond .eq 12, 3) := by decide +kernel
theorem dX12_pool_21 : decode cX12_pool 21 = .ok (.aload_n 0, 1) := by decide +kernel
theorem dX12_pool_22 : decode cX12_pool 22 = .ok (.iload_n 1, 1) := by decide +kernel
theorem dX12_pool_23 : decode cX12_pool 23 = .ok (.iload_n 2, 1) := by decide +kernel
theorem dX12_pool_24 : decode cX12_pool 24 = .ok (.invokevirtual 406, 3) := by decide +kernel
theorem dX12_pool_27 : decode cX12_pool 27 = .ok (.ifCond .ne 5, 3) := by decide +kernel
theorem dX12_pool_30 : decode cX12_pool 30 = .ok (.iconst 0, 1) := by decide +kernel
theorem dX12_pool_31 : decode cX12_pool 31 = .ok (.ireturn, 1) := by decide +kernel
theorem dX12_pool_32 : decode cX12_pool 32 = .ok (.aload_n 0, 1) := by decide +kernel
theorem dX12_pool_33 : decode cX12_pool 33 = .ok (.invokevirtual 397, 3) := by decide +kernel
theorem dX12_pool_36 : decode cX12_pool 36 = .ok (.aload_n 0, 1) := by decide +kernel
theorem dX12_pool_37 : decode cX12_pool 37 = .ok (.iload_n 1, 1) := by decide +kernel
theorem dX12_pool_38 : decode cX12_pool 38 = .ok (.iload_n 2, 1) := by decide +kernel
theorem dX12_pool_39 : decode cX12_pool 39 = .ok (.invokevirtual 409, 3) := by decide +kernel
theorem dX12_pool_42 : decode cX12_pool 42 = .ok (.iconst 1, 1) := by decide +kernel
theorem dX12_pool_43 : decode cX12_pool 43 = .ok (.ireturn, 1) := by decide +kernel
theorem dX12_tithed_0 : decode cX12_tithed 0 = .ok (.aload_n 0, 1) := by decide +kernel
theorem dX12_tithed_1 : decode cX12_tithed 1 = .ok (.iconst 0, 1) := by decide +kernel
theorem dX12_tithed_2 : decode cX12_tithed 2 = .ok (.putfield 143, 3) := by decide +kernel
theorem dX12_tithed_5 : decode cX12_tithed 5 = .ok (.aload_n 0, 1) := by decide +kernel
theorem dX12_tithed_6 : decode cX12_tithed 6 = .ok (.iload_n 1, 1) := by decide +kernel
theorem dX12_tithed_7 : decode cX12_tithed 7 = .ok (.invokevirtual 387, 3) := by decide +kernel
theorem dX12_tithed_10 : decode cX12_tithed 10 = .ok (.ifCond .eq 19, 3) := by decide +kernel
theorem dX12_tithed_13 : decode cX12_tithed 13 = .ok (.aload_n 0, 1) := by decide +kernel
theorem dX12_tithed_14 : decode cX12_tithed 14 = .ok (.iload_n 2, 1) := by decide +kernel
theorem dX12_tithed_15 : decode cX12_tithed 15 = .ok (.invokevirtual 384, 3) := by decide +kernel
theorem dX12_tithed_18 : decode cX12_tithed 18 = .ok (.ifCond .eq 11, 3) := by decide +kernel
theorem dX12_tithed_21 : decode cX12_tithed 21 = .ok (.aload_n 0, 1) := by decide +kernel
theorem dX12_tithed_22 : decode cX12_tithed 22 = .ok (.iload_n 1, 1) := by decide +kernel
theorem dX12_tithed_23 : decode cX12_tithed 23 = .ok (.invokevirtual 356, 3) := by decide +kernel
theorem dX12_tithed_26 : decode cX12_tithed 26 = .ok (.ifCond .eq 5, 3) := by decide +kernel
theorem dX12_tithed_29 : decode cX12_tithed 29 = .ok (.iconst (-1), 1) := by decide +kernel
theorem dX12_tithed_30 : decode cX12_tithed 30 = .ok (.ireturn, 1) := by decide +kernel
theorem dX12_tithed_31 : decode cX12_tithed 31 = .ok (.aload_n 0, 1) := by decide +kernel
theorem dX12_tithed_32 : decode cX12_tithed 32 = .ok (.iload_n 1, 1) := by decide +kernel
theorem dX12_tithed_33 : decode cX12_tithed 33 = .ok (.invokevirtual 359, 3) := by decide +kernel
theorem dX12_tithed_36 : decode cX12_tithed 36 = .ok (.istore_n 3, 1) := by decide +kernel
theorem dX12_tithed_37 : decode cX12_tithed 37 = .ok (.aload_n 0, 1) := by decide +kernel
theorem dX12_tithed_38 : decode cX12_tithed 38 = .ok (.iload_n 1, 1) := by decide +kernel
theorem dX12_tithed_39 : decode cX12_tithed 39 = .ok (.iconst 1, 1) := by decide +kernel
theorem dX12_tithed_40 : decode cX12_tithed 40 = .ok (.invokevirtual 349, 3) := by decide +kernel
theorem dX12_tithed_43 : decode cX12_tithed 43 = .ok (.istore 4, 2) := by decide +kernel
theorem dX12_tithed_45 : decode cX12_tithed 45 = .ok (.iconst 1, 1) := by decide +kernel
theorem dX12_tithed_46 : decode cX12_tithed 46 = .ok (.istore 5, 2) := by decide +kernel
theorem dX12_tithed_48 : decode cX12_tithed 48 = .ok (.iload 5, 2) := by decide +kernel
theorem dX12_tithed_50 : decode cX12_tithed 50 = .ok (.bipush 37, 2) := by decide +kernel
theorem dX12_tithed_52 : decode cX12_tithed 52 = .ok (.if_icmp .ge 42, 3) := by decide +kernel
theorem dX12_tithed_55 : decode cX12_tithed 55 = .ok (.iload 4, 2) := by decide +kernel
theorem dX12_tithed_57 : decode cX12_tithed 57 = .ok (.iload 5, 2) := by decide +kernel
theorem dX12_tithed_59 : decode cX12_tithed 59 = .ok (.iadd, 1) := by decide +kernel
theorem dX12_tithed_60 : decode cX12_tithed 60 = .ok (.aload_n 0, 1) := by decide +kernel
theorem dX12_tithed_61 : decode cX12_tithed 61 = .ok (.getfield 13, 3) := by decide +kernel
theorem dX12_tithed_64 : decode cX12_tithed 64 = .ok (.iconst 2, 1) := by decide +kernel
theorem dX12_tithed_65 : decode cX12_tithed 65 = .ok (.iaload, 1) := by decide +kernel
theorem dX12_tithed_66 : decode cX12_tithed 66 = .ok (.irem, 1) := by decide +kernel
theorem dX12_tithed_67 : decode cX12_tithed 67 = .ok (.ifCond .ne 15, 3) := by decide +kernel
theorem dX12_tithed_70 : decode cX12_tithed 70 = .ok (.iload_n 3, 1) := by decide +kernel
theorem dX12_tithed_71 : decode cX12_tithed 71 = .ok (.iload_n 2, 1) := by decide +kernel
theorem dX12_tithed_72 : decode cX12_tithed 72 = .ok (.ishr, 1) := by decide +kernel
theorem dX12_tithed_73 : decode cX12_tithed 73 = .ok (.iconst 1, 1) := by decide +kernel
theorem dX12_tithed_74 : decode cX12_tithed 74 = .ok (.iand, 1) := by decide +kernel
theorem dX12_tithed_75 : decode cX12_tithed 75 = .ok (.iconst 1, 1) := by decide +kernel
theorem dX12_tithed_76 : decode cX12_tithed 76 = .ok (.if_icmp .ne 6, 3) := by decide +kernel
theorem dX12_tithed_79 : decode cX12_tithed 79 = .ok (.iload 5, 2) := by decide +kernel
theorem dX12_tithed_81 : decode cX12_tithed 81 = .ok (.ireturn, 1) := by decide +kernel
theorem dX12_tithed_82 : decode cX12_tithed 82 = .ok (.aload_n 0, 1) := by decide +kernel
theorem dX12_tithed_83 : decode cX12_tithed 83 = .ok (.iload_n 3, 1) := by decide +kernel
theorem dX12_tithed_84 : decode cX12_tithed 84 = .ok (.invokevirtual 443, 3) := by decide +kernel
theorem dX12_tithed_87 : decode cX12_tithed 87 = .ok (.istore_n 3, 1) := by decide +kernel
theorem dX12_tithed_88 : decode cX12_tithed 88 = .ok (.iinc 5 1, 3) := by decide +kernel
theorem dX12_tithed_91 : decode cX12_tithed 91 = .ok (.goto (-43), 3) := by decide +kernel
theorem dX12_tithed_94 : decode cX12_tithed 94 = .ok (.iconst (-1), 1) := by decide +kernel
theorem dX12_tithed_95 : decode cX12_tithed 95 = .ok (.ireturn, 1) := by decide +kernel
theorem dX12_chance_0 : decode cX12_chance 0 = .ok (.aload_n 0, 1) := by decide +kernel
theorem dX12_chance_1 : decode cX12_chance 1 = .ok (.iconst 0, 1) := by decide +kernel
theorem dX12_chance_2 : decode cX12_chance 2 = .ok (.putfield 143, 3) := by decide +kernel
theorem dX12_chance_5 : decode cX12_chance 5 = .ok (.aload_n 0, 1) := by decide +kernel
theorem dX12_chance_6 : decode cX12_chance 6 = .ok (.iload_n 1, 1) := by decide +kernel
theorem dX12_chance_7 : decode cX12_chance 7 = .ok (.invokevirtual 387, 3) := by decide +kernel
theorem dX12_chance_10 : decode cX12_chance 10 = .ok (.ifCond .eq 19, 3) := by decide +kernel
theorem dX12_chance_13 : decode cX12_chance 13 = .ok (.aload_n 0, 1) := by decide +kernel
theorem dX12_chance_14 : decode cX12_chance 14 = .ok (.iload_n 2, 1) := by decide +kernel
theorem dX12_chance_15 : decode cX12_chance 15 = .ok (.invokevirtual 384, 3) := by decide +kernel
theorem dX12_chance_18 : decode cX12_chance 18 = .ok (.ifCond .eq 11, 3) := by decide +kernel
theorem dX12_chance_21 : decode cX12_chance 21 = .ok (.aload_n 0, 1) := by decide +kernel
theorem dX12_chance_22 : decode cX12_chance 22 = .ok (.iload_n 1, 1) := by decide +kernel
theorem dX12_chance_23 : decode cX12_chance 23 = .ok (.invokevirtual 356, 3) := by decide +kernel
theorem dX12_chance_26 : decode cX12_chance 26 = .ok (.ifCond .eq 5, 3) := by decide +kernel
theorem dX12_chance_29 : decode cX12_chance 29 = .ok (.iconst (-1), 1) := by decide +kernel
theorem dX12_chance_30 : decode cX12_chance 30 = .ok (.ireturn, 1) := by decide +kernel
theorem dX12_chance_31 : decode cX12_chance 31 = .ok (.aload_n 0, 1) := by decide +kernel
theorem dX12_chance_32 : decode cX12_chance 32 = .ok (.getfield 13, 3) := by decide +kernel
theorem dX12_chance_35 : decode cX12_chance 35 = .ok (.iconst 2, 1) := by decide +kernel
theorem dX12_chance_36 : decode cX12_chance 36 = .ok (.iaload, 1) := by decide +kernel
theorem dX12_chance_37 : decode cX12_chance 37 = .ok (.aload_n 0, 1) := by decide +kernel
theorem dX12_chance_38 : decode cX12_chance 38 = .ok (.iload_n 1, 1) := by decide +kernel
theorem dX12_chance_39 : decode cX12_chance 39 = .ok (.iconst 1, 1) := by decide +kernel
theorem dX12_chance_40 : decode cX12_chance 40 = .ok (.invokevirtual 349, 3) := by decide +kernel
theorem dX12_chance_43 : decode cX12_chance 43 = .ok (.isub, 1) := by decide +kernel
theorem dX12_chance_44 : decode cX12_chance 44 = .ok (.istore_n 3, 1) := by decide +kernel
theorem dX12_chance_45 : decode cX12_chance 45 = .ok (.iconst 0, 1) := by decide +kernel
theorem dX12_chance_46 : decode cX12_chance 46 = .ok (.istore 4, 2) := by decide +kernel
theorem dX12_chance_48 : decode cX12_chance 48 = .ok (.iload 4, 2) := by decide +kernel
theorem dX12_chance_50 : decode cX12_chance 50 = .ok (.iload_n 3, 1) := by decide +kernel
theorem dX12_chance_51 : decode cX12_chance 51 = .ok (.if_icmp .ge 127, 3) := by decide +kernel
theorem dX12_chance_54 : decode cX12_chance 54 = .ok (.iconst 0, 1) := by decide +kernel
theorem dX12_chance_55 : decode cX12_chance 55 = .ok (.istore 5, 2) := by decide +kernel
theorem dX12_chance_57 : decode cX12_chance 57 = .ok (.iload 5, 2) := by decide +kernel
theorem dX12_chance_59 : decode cX12_chance 59 = .ok (.bipush 8, 2) := by decide +kernel
theorem dX12_chance_61 : decode cX12_chance 61 = .ok (.if_icmp .ge 20, 3) := by decide +kernel
theorem dX12_chance_64 : decode cX12_chance 64 = .ok (.aload_n 0, 1) := by decide +kernel
theorem dX12_chance_65 : decode cX12_chance 65 = .ok (.getfield 130, 3) := by decide +kernel
theorem dX12_chance_68 : decode cX12_chance 68 = .ok (.bipush 8, 2) := by decide +kernel
theorem dX12_chance_70 : decode cX12_chance 70 = .ok (.iload 5, 2) := by decide +kernel
theorem dX12_chance_72 : decode cX12_chance 72 = .ok (.iadd, 1) := by decide +kernel
theorem dX12_chance_73 : decode cX12_chance 73 = .ok (.iconst 0, 1) := by decide +kernel
theorem dX12_chance_74 : decode cX12_chance 74 = .ok (.iastore, 1) := by decide +kernel
theorem dX12_chance_75 : decode cX12_chance 75 = .ok (.iinc 5 1, 3) := by decide +kernel
theorem dX12_chance_78 : decode cX12_chance 78 = .ok (.goto (-21), 3) := by decide +kernel
theorem dX12_chance_81 : decode cX12_chance 81 = .ok (.iload 4, 2) := by decide +kernel
theorem dX12_chance_83 : decode cX12_chance 83 = .ok (.ifCond .ne 18, 3) := by decide +kernel
theorem dX12_chance_86 : decode cX12_chance 86 = .ok (.aload_n 0, 1) := by decide +kernel
theorem dX12_chance_87 : decode cX12_chance 87 = .ok (.ldc_w 449, 3) := by decide +kernel
theorem dX12_chance_90 : decode cX12_chance 90 = .ok (.aload_n 0, 1) := by decide +kernel
theorem dX12_chance_91 : decode cX12_chance 91 = .ok (.iload_n 1, 1) := by decide +kernel
theorem dX12_chance_92 : decode cX12_chance 92 = .ok (.invokevirtual 359, 3) := by decide +kernel
theorem dX12_chance_95 : decode cX12_chance 95 = .ok (.invokevirtual 450, 3) := by decide +kernel
theorem dX12_chance_98 : decode cX12_chance 98 = .ok (.goto 41, 3) := by decide +kernel
theorem dX12_chance_101 : decode cX12_chance 101 = .ok (.iconst 0, 1) := by decide +kernel
theorem dX12_chance_102 : decode cX12_chance 102 = .ok (.istore 5, 2) := by decide +kernel
theorem dX12_chance_104 : decode cX12_chance 104 = .ok (.iload 5, 2) := by decide +kernel
theorem dX12_chance_106 : decode cX12_chance 106 = .ok (.aload_n 0, 1) := by decide +kernel
theorem dX12_chance_107 : decode cX12_chance 107 = .ok (.getfield 13, 3) := by decide +kernel
theorem dX12_chance_110 : decode cX12_chance 110 = .ok (.iconst 0, 1) := by decide +kernel
theorem dX12_chance_111 : decode cX12_chance 111 = .ok (.iaload, 1) := by decide +kernel
theorem dX12_chance_112 : decode cX12_chance 112 = .ok (.if_icmp .ge 27, 3) := by decide +kernel
theorem dX12_chance_115 : decode cX12_chance 115 = .ok (.aload_n 0, 1) := by decide +kernel
theorem dX12_chance_116 : decode cX12_chance 116 = .ok (.aload_n 0, 1) := by decide +kernel
theorem dX12_chance_117 : decode cX12_chance 117 = .ok (.getfield 130, 3) := by decide +kernel
theorem dX12_chance_120 : decode cX12_chance 120 = .ok (.iload 5, 2) := by decide +kernel
theorem dX12_chance_122 : decode cX12_chance 122 = .ok (.iaload, 1) := by decide +kernel
theorem dX12_chance_123 : decode cX12_chance 123 = .ok (.aload_n 0, 1) := by decide +kernel
theorem dX12_chance_124 : decode cX12_chance 124 = .ok (.getfield 29, 3) := by decide +kernel
theorem dX12_chance_127 : decode cX12_chance 127 = .ok (.iload 5, 2) := by decide +kernel
theorem dX12_chance_129 : decode cX12_chance 129 = .ok (.iaload, 1) := by decide +kernel
theorem dX12_chance_130 : decode cX12_chance 130 = .ok (.invokevirtual 450, 3) := by decide +kernel
theorem dX12_chance_133 : decode cX12_chance 133 = .ok (.iinc 5 1, 3) := by decide +kernel
theorem dX12_chance_136 : decode cX12_chance 136 = .ok (.goto (-32), 3) := by decide +kernel
theorem dX12_chance_139 : decode cX12_chance 139 = .ok (.iconst 0, 1) := by decide +kernel
theorem dX12_chance_140 : decode cX12_chance 140 = .ok (.istore 5, 2) := by decide +kernel
theorem dX12_chance_142 : decode cX12_chance 142 = .ok (.iload 5, 2) := by decide +kernel
theorem dX12_chance_144 : decode cX12_chance 144 = .ok (.bipush 8, 2) := by decide +kernel
theorem dX12_chance_146 : decode cX12_chance 146 = .ok (.if_icmp .ge 26, 3) := by decide +kernel
theorem dX12_chance_149 : decode cX12_chance 149 = .ok (.aload_n 0, 1) := by decide +kernel
theorem dX12_chance_150 : decode cX12_chance 150 = .ok (.getfield 130, 3) := by decide +kernel
theorem dX12_chance_153 : decode cX12_chance 153 = .ok (.iload 5, 2) := by decide +kernel
theorem dX12_chance_155 : decode cX12_chance 155 = .ok (.aload_n 0, 1) := by decide +kernel
theorem dX12_chance_156 : decode cX12_chance 156 = .ok (.getfield 130, 3) := by decide +kernel
theorem dX12_chance_159 : decode cX12_chance 159 = .ok (.bipush 8, 2) := by decide +kernel
theorem dX12_chance_161 : decode cX12_chance 161 = .ok (.iload 5, 2) := by decide +kernel
theorem dX12_chance_163 : decode cX12_chance 163 = .ok (.iadd, 1) := by decide +kernel
theorem dX12_chance_164 : decode cX12_chance 164 = .ok (.iaload, 1) := by decide +kernel
theorem dX12_chance_165 : decode cX12_chance 165 = .ok (.iastore, 1) := by decide +kernel
theorem dX12_chance_166 : decode cX12_chance 166 = .ok (.iinc 5 1, 3) := by decide +kernel
theorem dX12_chance_169 : decode cX12_chance 169 = .ok (.goto (-27), 3) := by decide +kernel
theorem dX12_chance_172 : decode cX12_chance 172 = .ok (.iinc 4 1, 3) := by decide +kernel
theorem dX12_chance_175 : decode cX12_chance 175 = .ok (.goto (-127), 3) := by decide +kernel
theorem dX12_chance_178 : decode cX12_chance 178 = .ok (.aload_n 0, 1) := by decide +kernel
theorem dX12_chance_179 : decode cX12_chance 179 = .ok (.getfield 130, 3) := by decide +kernel
theorem dX12_chance_182 : decode cX12_chance 182 = .ok (.iload_n 2, 1) := by decide +kernel
theorem dX12_chance_183 : decode cX12_chance 183 = .ok (.iaload, 1) := by decide +kernel
theorem dX12_chance_184 : decode cX12_chance 184 = .ok (.ireturn, 1) := by decide +kernel
theorem dX12_gate_0 : decode cX12_gate 0 = .ok (.aload_n 0, 1) := by decide +kernel
theorem dX12_gate_1 : decode cX12_gate 1 = .ok (.iconst 0, 1) := by decide +kernel
theorem dX12_gate_2 : decode cX12_gate 2 = .ok (.putfield 143, 3) := by decide +kernel
theorem dX12_gate_5 : decode cX12_gate 5 = .ok (.aload_n 0, 1) := by decide +kernel
theorem dX12_gate_6 : decode cX12_gate 6 = .ok (.iload_n 1, 1) := by decide +kernel
theorem dX12_gate_7 : decode cX12_gate 7 = .ok (.invokevirtual 387, 3) := by decide +kernel
theorem dX12_gate_10 : decode cX12_gate 10 = .ok (.ifCond .eq 11, 3) := by decide +kernel
theorem dX12_gate_13 : decode cX12_gate 13 = .ok (.aload_n 0, 1) := by decide +kernel
theorem dX12_gate_14 : decode cX12_gate 14 = .ok (.iload_n 1, 1) := by decide +kernel
theorem dX12_gate_15 : decode cX12_gate 15 = .ok (.invokevirtual 356, 3) := by decide +kernel
theorem dX12_gate_18 : decode cX12_gate 18 = .ok (.ifCond .eq 5, 3) := by decide +kernel
theorem dX12_gate_21 : decode cX12_gate 21 = .ok (.iconst (-1), 1) := by decide +kernel
theorem dX12_gate_22 : decode cX12_gate 22 = .ok (.ireturn, 1) := by decide +kernel
theorem dX12_gate_23 : decode cX12_gate 23 = .ok (.aload_n 0, 1) := by decide +kernel
theorem dX12_gate_24 : decode cX12_gate 24 = .ok (.invokevirtual 397, 3) := by decide +kernel
theorem dX12_gate_27 : decode cX12_gate 27 = .ok (.aload_n 0, 1) := by decide +kernel
theorem dX12_gate_28 : decode cX12_gate 28 = .ok (.iload_n 1, 1) := by decide +kernel
theorem dX12_gate_29 : decode cX12_gate 29 = .ok (.invokevirtual 403, 3) := by decide +kernel
theorem dX12_gate_32 : decode cX12_gate 32 = .ok (.ireturn, 1) := by decide +kernel
theorem dX12_safe_0 : decode cX12_safe 0 = .ok (.aload_n 0, 1) := by decide +kernel
theorem dX12_safe_1 : decode cX12_safe 1 = .ok (.iconst 0, 1) := by decide +kernel
theorem dX12_safe_2 : decode cX12_safe 2 = .ok (.putfield 143, 3) := by decide +kernel
theorem dX12_safe_5 : decode cX12_safe 5 = .ok (.aload_n 0, 1) := by decide +kernel
theorem dX12_safe_6 : decode cX12_safe 6 = .ok (.iload_n 1, 1) := by decide +kernel
theorem dX12_safe_7 : decode cX12_safe 7 = .ok (.invokevirtual 387, 3) := by decide +kernel
theorem dX12_safe_10 : decode cX12_safe 10 = .ok (.ifCond .ne 5, 3) := by decide +kernel
theorem dX12_safe_13 : decode cX12_safe 13 = .ok (.iconst (-1), 1) := by decide +kernel
theorem dX12_safe_14 : decode cX12_safe 14 = .ok (.ireturn, 1) := by decide +kernel
theorem dX12_safe_15 : decode cX12_safe 15 = .ok (.aload_n 0, 1) := by decide +kernel
theorem dX12_safe_16 : decode cX12_safe 16 = .ok (.aload_n 0, 1) := by decide +kernel
theorem dX12_safe_17 : decode cX12_safe 17 = .ok (.getfield 13, 3) := by decide +kernel
theorem dX12_safe_20 : decode cX12_safe 20 = .ok (.iconst 2, 1) := by decide +kernel
theorem dX12_safe_21 : decode cX12_safe 21 = .ok (.iaload, 1) := by decide +kernel
theorem dX12_safe_22 : decode cX12_safe 22 = .ok (.putfield 120, 3) := by decide +kernel
theorem dX12_safe_25 : decode cX12_safe 25 = .ok (.aload_n 0, 1) := by decide +kernel
theorem dX12_safe_26 : decode cX12_safe 26 = .ok (.getfield 102, 3) := by decide +kernel
theorem dX12_safe_29 : decode cX12_safe 29 = .ok (.iconst 0, 1) := by decide +kernel
theorem dX12_safe_30 : decode cX12_safe 30 = .ok (.aload_n 0, 1) := by decide +kernel
theorem dX12_safe_31 : decode cX12_safe 31 = .ok (.getfield 105, 3) := by decide +kernel
theorem dX12_safe_34 : decode cX12_safe 34 = .ok (.iconst 0, 1) := by decide +kernel
theorem dX12_safe_35 : decode cX12_safe 35 = .ok (.invokestatic 393, 3) := by decide +kernel
theorem dX12_safe_38 : decode cX12_safe 38 = .ok (.aload_n 0, 1) := by decide +kernel
theorem dX12_safe_39 : decode cX12_safe 39 = .ok (.iload_n 1, 1) := by decide +kernel
theorem dX12_safe_40 : decode cX12_safe 40 = .ok (.invokevirtual 390, 3) := by decide +kernel
theorem dX12_safe_43 : decode cX12_safe 43 = .ok (.istore_n 2, 1) := by decide +kernel
theorem dX12_safe_44 : decode cX12_safe 44 = .ok (.iconst 0, 1) := by decide +kernel
theorem dX12_safe_45 : decode cX12_safe 45 = .ok (.istore_n 3, 1) := by decide +kernel
theorem dX12_safe_46 : decode cX12_safe 46 = .ok (.iconst 0, 1) := by decide +kernel
theorem dX12_safe_47 : decode cX12_safe 47 = .ok (.istore 4, 2) := by decide +kernel
theorem dX12_safe_49 : decode cX12_safe 49 = .ok (.iload 4, 2) := by decide +kernel
theorem dX12_safe_51 : decode cX12_safe 51 = .ok (.aload_n 0, 1) := by decide +kernel
theorem dX12_safe_52 : decode cX12_safe 52 = .ok (.getfield 13, 3) := by decide +kernel
theorem dX12_safe_55 : decode cX12_safe 55 = .ok (.iconst 0, 1) := by decide +kernel
theorem dX12_safe_56 : decode cX12_safe 56 = .ok (.iaload, 1) := by decide +kernel
theorem dX12_safe_57 : decode cX12_safe 57 = .ok (.if_icmp .ge 59, 3) := by decide +kernel
theorem dX12_safe_60 : decode cX12_safe 60 = .ok (.iload_n 2, 1) := by decide +kernel
theorem dX12_safe_61 : decode cX12_safe 61 = .ok (.iload 4, 2) := by decide +kernel
theorem dX12_safe_63 : decode cX12_safe 63 = .ok (.ishr, 1) := by decide +kernel
theorem dX12_safe_64 : decode cX12_safe 64 = .ok (.iconst 1, 1) := by decide +kernel
theorem dX12_safe_65 : decode cX12_safe 65 = .ok (.iand, 1) := by decide +kernel
theorem dX12_safe_66 : decode cX12_safe 66 = .ok (.ifCond .ne 6, 3) := by decide +kernel
theorem dX12_safe_69 : decode cX12_safe 69 = .ok (.goto 41, 3) := by decide +kernel
theorem dX12_safe_72 : decode cX12_safe 72 = .ok (.aload_n 0, 1) := by decide +kernel
theorem dX12_safe_73 : decode cX12_safe 73 = .ok (.iload_n 1, 1) := by decide +kernel
theorem dX12_safe_74 : decode cX12_safe 74 = .ok (.iload 4, 2) := by decide +kernel
theorem dX12_safe_76 : decode cX12_safe 76 = .ok (.invokevirtual 400, 3) := by decide +kernel
theorem dX12_safe_79 : decode cX12_safe 79 = .ok (.ifCond .ge 18, 3) := by decide +kernel
theorem dX12_safe_82 : decode cX12_safe 82 = .ok (.aload_n 0, 1) := by decide +kernel
theorem dX12_safe_83 : decode cX12_safe 83 = .ok (.iload_n 1, 1) := by decide +kernel
theorem dX12_safe_84 : decode cX12_safe 84 = .ok (.invokevirtual 356, 3) := by decide +kernel
theorem dX12_safe_87 : decode cX12_safe 87 = .ok (.ifCond .ne 10, 3) := by decide +kernel
theorem dX12_safe_90 : decode cX12_safe 90 = .ok (.iload_n 3, 1) := by decide +kernel
theorem dX12_safe_91 : decode cX12_safe 91 = .ok (.iconst 1, 1) := by decide +kernel
theorem dX12_safe_92 : decode cX12_safe 92 = .ok (.iload 4, 2) := by decide +kernel
theorem dX12_safe_94 : decode cX12_safe 94 = .ok (.ishl, 1) := by decide +kernel
theorem dX12_safe_95 : decode cX12_safe 95 = .ok (.ior, 1) := by decide +kernel
theorem dX12_safe_96 : decode cX12_safe 96 = .ok (.istore_n 3, 1) := by decide +kernel
theorem dX12_safe_97 : decode cX12_safe 97 = .ok (.aload_n 0, 1) := by decide +kernel
theorem dX12_safe_98 : decode cX12_safe 98 = .ok (.getfield 105, 3) := by decide +kernel
theorem dX12_safe_101 : decode cX12_safe 101 = .ok (.iconst 0, 1) := by decide +kernel
theorem dX12_safe_102 : decode cX12_safe 102 = .ok (.aload_n 0, 1) := by decide +kernel
theorem dX12_safe_103 : decode cX12_safe 103 = .ok (.getfield 102, 3) := by decide +kernel
theorem dX12_safe_106 : decode cX12_safe 106 = .ok (.iconst 0, 1) := by decide +kernel
theorem dX12_safe_107 : decode cX12_safe 107 = .ok (.invokestatic 393, 3) := by decide +kernel
theorem dX12_safe_110 : decode cX12_safe 110 = .ok (.iinc 4 1, 3) := by decide +kernel
theorem dX12_safe_113 : decode cX12_safe 113 = .ok (.goto (-64), 3) := by decide +kernel
theorem dX12_safe_116 : decode cX12_safe 116 = .ok (.iload_n 3, 1) := by decide +kernel
theorem dX12_safe_117 : decode cX12_safe 117 = .ok (.ireturn, 1) := by decide +kernel
theorem dX12_ring_0 : decode cX12_ring 0 = .ok (.aload_n 0, 1) := by decide +kernel
theorem dX12_ring_1 : decode cX12_ring 1 = .ok (.iconst 0, 1) := by decide +kernel
theorem dX12_ring_2 : decode cX12_ring 2 = .ok (.putfield 143, 3) := by decide +kernel
theorem dX12_ring_5 : decode cX12_ring 5 = .ok (.aload_n 0, 1) := by decide +kernel
theorem dX12_ring_6 : decode cX12_ring 6 = .ok (.iload_n 1, 1) := by decide +kernel
theorem dX12_ring_7 : decode cX12_ring 7 = .ok (.invokevirtual 384, 3) := by decide +kernel
theorem dX12_ring_10 : decode cX12_ring 10 = .ok (.ifCond .ne 5, 3) := by decide +kernel
theorem dX12_ring_13 : decode cX12_ring 13 = .ok (.iconst (-1), 1) := by decide +kernel
theorem dX12_ring_14 : decode cX12_ring 14 = .ok (.ireturn, 1) := by decide +kernel
theorem dX12_ring_15 : decode cX12_ring 15 = .ok (.aload_n 0, 1) := by decide +kernel
theorem dX12_ring_16 : decode cX12_ring 16 = .ok (.getfield 29, 3) := by decide +kernel
theorem dX12_ring_19 : decode cX12_ring 19 = .ok (.iload_n 1, 1) := by decide +kernel
theorem dX12_ring_20 : decode cX12_ring 20 = .ok (.iaload, 1) := by decide +kernel
theorem dX12_ring_21 : decode cX12_ring 21 = .ok (.istore_n 2, 1) := by decide +kernel
theorem dX12_ring_22 : decode cX12_ring 22 = .ok (.iconst 1, 1) := by decide +kernel
theorem dX12_ring_23 : decode cX12_ring 23 = .ok (.istore_n 3, 1) := by decide +kernel
theorem dX12_ring_24 : decode cX12_ring 24 = .ok (.iload_n 3, 1) := by decide +kernel
theorem dX12_ring_25 : decode cX12_ring 25 = .ok (.bipush 9, 2) := by decide +kernel
theorem dX12_ring_27 : decode cX12_ring 27 = .ok (.if_icmp .ge 26, 3) := by decide +kernel
theorem dX12_ring_30 : decode cX12_ring 30 = .ok (.iload_n 2, 1) := by decide +kernel
theorem dX12_ring_31 : decode cX12_ring 31 = .ok (.iload_n 1, 1) := by decide +kernel
theorem dX12_ring_32 : decode cX12_ring 32 = .ok (.ishr, 1) := by decide +kernel
theorem dX12_ring_33 : decode cX12_ring 33 = .ok (.iconst 1, 1) := by decide +kernel
theorem dX12_ring_34 : decode cX12_ring 34 = .ok (.iand, 1) := by decide +kernel
theorem dX12_ring_35 : decode cX12_ring 35 = .ok (.iconst 1, 1) := by decide +kernel
theorem dX12_ring_36 : decode cX12_ring 36 = .ok (.if_icmp .ne 5, 3) := by decide +kernel
theorem dX12_ring_39 : decode cX12_ring 39 = .ok (.iload_n 3, 1) := by decide +kernel
theorem dX12_ring_40 : decode cX12_ring 40 = .ok (.ireturn, 1) := by decide +kernel
theorem dX12_ring_41 : decode cX12_ring 41 = .ok (.aload_n 0, 1) := by decide +kernel
theorem dX12_ring_42 : decode cX12_ring 42 = .ok (.iload_n 2, 1) := by decide +kernel
theorem dX12_ring_43 : decode cX12_ring 43 = .ok (.invokevirtual 443, 3) := by decide +kernel
theorem dX12_ring_46 : decode cX12_ring 46 = .ok (.istore_n 2, 1) := by decide +kernel
theorem dX12_ring_47 : decode cX12_ring 47 = .ok (.iinc 3 1, 3) := by decide +kernel
theorem dX12_ring_50 : decode cX12_ring 50 = .ok (.goto (-26), 3) := by decide +kernel
theorem dX12_ring_53 : decode cX12_ring 53 = .ok (.iconst (-1), 1) := by decide +kernel
theorem dX12_ring_54 : decode cX12_ring 54 = .ok (.ireturn, 1) := by decide +kernel
theorem dX12_dowry_0 : decode cX12_dowry 0 = .ok (.aload_n 0, 1) := by decide +kernel
theorem dX12_dowry_1 : decode cX12_dowry 1 = .ok (.iconst 0, 1) := by decide +kernel
theorem dX12_dowry_2 : decode cX12_dowry 2 = .ok (.putfield 143, 3) := by decide +kernel
theorem dX12_dowry_5 : decode cX12_dowry 5 = .ok (.aload_n 0, 1) := by decide +kernel
theorem dX12_dowry_6 : decode cX12_dowry 6 = .ok (.iload_n 1, 1) := by decide +kernel
theorem dX12_dowry_7 : decode cX12_dowry 7 = .ok (.invokevirtual 387, 3) := by decide +kernel
theorem dX12_dowry_10 : decode cX12_dowry 10 = .ok (.ifCond .eq 11, 3) := by decide +kernel
theorem dX12_dowry_13 : decode cX12_dowry 13 = .ok (.aload_n 0, 1) := by decide +kernel
theorem dX12_dowry_14 : decode cX12_dowry 14 = .ok (.iload_n 1, 1) := by decide +kernel
theorem dX12_dowry_15 : decode cX12_dowry 15 = .ok (.invokevirtual 462, 3) := by decide +kernel
theorem dX12_dowry_18 : decode cX12_dowry 18 = .ok (.goto 4, 3) := by decide +kernel
theorem dX12_dowry_21 : decode cX12_dowry 21 = .ok (.iconst (-1), 1) := by decide +kernel
theorem dX12_dowry_22 : decode cX12_dowry 22 = .ok (.ireturn, 1) := by decide +kernel
theorem dX12_ways_0 : decode cX12_ways 0 = .ok (.aload_n 0, 1) := by decide +kernel
theorem dX12_ways_1 : decode cX12_ways 1 = .ok (.iconst 0, 1) := by decide +kernel
theorem dX12_ways_2 : decode cX12_ways 2 = .ok (.putfield 143, 3) := by decide +kernel
theorem dX12_ways_5 : decode cX12_ways 5 = .ok (.aload_n 0, 1) := by decide +kernel
theorem dX12_ways_6 : decode cX12_ways 6 = .ok (.iload_n 1, 1) := by decide +kernel
theorem dX12_ways_7 : decode cX12_ways 7 = .ok (.invokevirtual 387, 3) := by decide +kernel
theorem dX12_ways_10 : decode cX12_ways 10 = .ok (.ifCond .eq 21, 3) := by decide +kernel
theorem dX12_ways_13 : decode cX12_ways 13 = .ok (.aload_n 0, 1) := by decide +kernel
theorem dX12_ways_14 : decode cX12_ways 14 = .ok (.iload_n 2, 1) := by decide +kernel
theorem dX12_ways_15 : decode cX12_ways 15 = .ok (.invokevirtual 384, 3) := by decide +kernel
theorem dX12_ways_18 : decode cX12_ways 18 = .ok (.ifCond .eq 13, 3) := by decide +kernel
theorem dX12_ways_21 : decode cX12_ways 21 = .ok (.iload_n 3, 1) := by decide +kernel
theorem dX12_ways_22 : decode cX12_ways 22 = .ok (.iconst 1, 1) := by decide +kernel
theorem dX12_ways_23 : decode cX12_ways 23 = .ok (.bipush 9, 2) := by decide +kernel
theorem dX12_ways_25 : decode cX12_ways 25 = .ok (.invokestatic 262, 3) := by decide +kernel
theorem dX12_ways_28 : decode cX12_ways 28 = .ok (.ifCond .ne 5, 3) := by decide +kernel
theorem dX12_ways_31 : decode cX12_ways 31 = .ok (.iconst (-1), 1) := by decide +kernel
theorem dX12_ways_32 : decode cX12_ways 32 = .ok (.ireturn, 1) := by decide +kernel
theorem dX12_ways_33 : decode cX12_ways 33 = .ok (.iconst 0, 1) := by decide +kernel
theorem dX12_ways_34 : decode cX12_ways 34 = .ok (.istore 4, 2) := by decide +kernel
theorem dX12_ways_36 : decode cX12_ways 36 = .ok (.iload 4, 2) := by decide +kernel
theorem dX12_ways_38 : decode cX12_ways 38 = .ok (.bipush 8, 2) := by decide +kernel
theorem dX12_ways_40 : decode cX12_ways 40 = .ok (.if_icmp .ge 26, 3) := by decide +kernel
theorem dX12_ways_43 : decode cX12_ways 43 = .ok (.aload_n 0, 1) := by decide +kernel
theorem dX12_ways_44 : decode cX12_ways 44 = .ok (.getfield 130, 3) := by decide +kernel
theorem dX12_ways_47 : decode cX12_ways 47 = .ok (.iload 4, 2) := by decide +kernel
theorem dX12_ways_49 : decode cX12_ways 49 = .ok (.aload_n 0, 1) := by decide +kernel
theorem dX12_ways_50 : decode cX12_ways 50 = .ok (.iload_n 1, 1) := by decide +kernel
theorem dX12_ways_51 : decode cX12_ways 51 = .ok (.invokevirtual 359, 3) := by decide +kernel
theorem dX12_ways_54 : decode cX12_ways 54 = .ok (.iload 4, 2) := by decide +kernel
theorem dX12_ways_56 : decode cX12_ways 56 = .ok (.ishr, 1) := by decide +kernel
theorem dX12_ways_57 : decode cX12_ways 57 = .ok (.iconst 1, 1) := by decide +kernel
theorem dX12_ways_58 : decode cX12_ways 58 = .ok (.iand, 1) := by decide +kernel
theorem dX12_ways_59 : decode cX12_ways 59 = .ok (.iastore, 1) := by decide +kernel
theorem dX12_ways_60 : decode cX12_ways 60 = .ok (.iinc 4 1, 3) := by decide +kernel
theorem dX12_ways_63 : decode cX12_ways 63 = .ok (.goto (-27), 3) := by decide +kernel
theorem dX12_ways_66 : decode cX12_ways 66 = .ok (.iconst 1, 1) := by decide +kernel
theorem dX12_ways_67 : decode cX12_ways 67 = .ok (.istore 4, 2) := by decide +kernel
theorem dX12_ways_69 : decode cX12_ways 69 = .ok (.iload 4, 2) := by decide +kernel
theorem dX12_ways_71 : decode cX12_ways 71 = .ok (.iload_n 3, 1) := by decide +kernel
theorem dX12_ways_72 : decode cX12_ways 72 = .ok (.if_icmp .ge 149, 3) := by decide +kernel
theorem dX12_ways_75 : decode cX12_ways 75 = .ok (.iconst 0, 1) := by decide +kernel
theorem dX12_ways_76 : decode cX12_ways 76 = .ok (.istore 5, 2) := by decide +kernel
theorem dX12_ways_78 : decode cX12_ways 78 = .ok (.iload 5, 2) := by decide +kernel
theorem dX12_ways_80 : decode cX12_ways 80 = .ok (.bipush 8, 2) := by decide +kernel
theorem dX12_ways_82 : decode cX12_ways 82 = .ok (.if_icmp .ge 20, 3) := by decide +kernel
theorem dX12_ways_85 : decode cX12_ways 85 = .ok (.aload_n 0, 1) := by decide +kernel
theorem dX12_ways_86 : decode cX12_ways 86 = .ok (.getfield 130, 3) := by decide +kernel
theorem dX12_ways_89 : decode cX12_ways 89 = .ok (.bipush 8, 2) := by decide +kernel
theorem dX12_ways_91 : decode cX12_ways 91 = .ok (.iload 5, 2) := by decide +kernel
theorem dX12_ways_93 : decode cX12_ways 93 = .ok (.iadd, 1) := by decide +kernel
theorem dX12_ways_94 : decode cX12_ways 94 = .ok (.iconst 0, 1) := by decide +kernel
theorem dX12_ways_95 : decode cX12_ways 95 = .ok (.iastore, 1) := by decide +kernel
theorem dX12_ways_96 : decode cX12_ways 96 = .ok (.iinc 5 1, 3) := by decide +kernel
theorem dX12_ways_99 : decode cX12_ways 99 = .ok (.goto (-21), 3) := by decide +kernel
theorem dX12_ways_102 : decode cX12_ways 102 = .ok (.iconst 0, 1) := by decide +kernel
theorem dX12_ways_103 : decode cX12_ways 103 = .ok (.istore 5, 2) := by decide +kernel
theorem dX12_ways_105 : decode cX12_ways 105 = .ok (.iload 5, 2) := by decide +kernel
theorem dX12_ways_107 : decode cX12_ways 107 = .ok (.aload_n 0, 1) := by decide +kernel
theorem dX12_ways_108 : decode cX12_ways 108 = .ok (.getfield 13, 3) := by decide +kernel
theorem dX12_ways_111 : decode cX12_ways 111 = .ok (.iconst 0, 1) := by decide +kernel
theorem dX12_ways_112 : decode cX12_ways 112 = .ok (.iaload, 1) := by decide +kernel
theorem dX12_ways_113 : decode cX12_ways 113 = .ok (.if_icmp .ge 69, 3) := by decide +kernel
theorem dX12_ways_116 : decode cX12_ways 116 = .ok (.iconst 0, 1) := by decide +kernel
theorem dX12_ways_117 : decode cX12_ways 117 = .ok (.istore 6, 2) := by decide +kernel
theorem dX12_ways_119 : decode cX12_ways 119 = .ok (.iload 6, 2) := by decide +kernel
theorem dX12_ways_121 : decode cX12_ways 121 = .ok (.aload_n 0, 1) := by decide +kernel
theorem dX12_ways_122 : decode cX12_ways 122 = .ok (.getfield 13, 3) := by decide +kernel
theorem dX12_ways_125 : decode cX12_ways 125 = .ok (.iconst 0, 1) := by decide +kernel
theorem dX12_ways_126 : decode cX12_ways 126 = .ok (.iaload, 1) := by decide +kernel
theorem dX12_ways_127 : decode cX12_ways 127 = .ok (.if_icmp .ge 49, 3) := by decide +kernel
theorem dX12_ways_130 : decode cX12_ways 130 = .ok (.aload_n 0, 1) := by decide +kernel
theorem dX12_ways_131 : decode cX12_ways 131 = .ok (.getfield 130, 3) := by decide +kernel
theorem dX12_ways_134 : decode cX12_ways 134 = .ok (.bipush 8, 2) := by decide +kernel
theorem dX12_ways_136 : decode cX12_ways 136 = .ok (.iload 6, 2) := by decide +kernel
theorem dX12_ways_138 : decode cX12_ways 138 = .ok (.iadd, 1) := by decide +kernel
theorem dX12_ways_139 : decode cX12_ways 139 = .ok (.dup2, 1) := by decide +kernel
theorem dX12_ways_140 : decode cX12_ways 140 = .ok (.iaload, 1) := by decide +kernel
theorem dX12_ways_141 : decode cX12_ways 141 = .ok (.aload_n 0, 1) := by decide +kernel
theorem dX12_ways_142 : decode cX12_ways 142 = .ok (.getfield 29, 3) := by decide +kernel
theorem dX12_ways_145 : decode cX12_ways 145 = .ok (.iload 5, 2) := by decide +kernel
theorem dX12_ways_147 : decode cX12_ways 147 = .ok (.iaload, 1) := by decide +kernel
theorem dX12_ways_148 : decode cX12_ways 148 = .ok (.iload 6, 2) := by decide +kernel
theorem dX12_ways_150 : decode cX12_ways 150 = .ok (.ishr, 1) := by decide +kernel
theorem dX12_ways_151 : decode cX12_ways 151 = .ok (.iconst 1, 1) := by decide +kernel
theorem dX12_ways_152 : decode cX12_ways 152 = .ok (.iand, 1) := by decide +kernel
theorem dX12_ways_153 : decode cX12_ways 153 = .ok (.iconst 1, 1) := by decide +kernel
theorem dX12_ways_154 : decode cX12_ways 154 = .ok (.if_icmp .ne 13, 3) := by decide +kernel
theorem dX12_ways_157 : decode cX12_ways 157 = .ok (.aload_n 0, 1) := by decide +kernel
theorem dX12_ways_158 : decode cX12_ways 158 = .ok (.getfield 130, 3) := by decide +kernel
theorem dX12_ways_161 : decode cX12_ways 161 = .ok (.iload 5, 2) := by decide +kernel
theorem dX12_ways_163 : decode cX12_ways 163 = .ok (.iaload, 1) := by decide +kernel
theorem dX12_ways_164 : decode cX12_ways 164 = .ok (.goto 4, 3) := by decide +kernel
theorem dX12_ways_167 : decode cX12_ways 167 = .ok (.iconst 0, 1) := by decide +kernel
theorem dX12_ways_168 : decode cX12_ways 168 = .ok (.iadd, 1) := by decide +kernel
theorem dX12_ways_169 : decode cX12_ways 169 = .ok (.iastore, 1) := by decide +kernel
theorem dX12_ways_170 : decode cX12_ways 170 = .ok (.iinc 6 1, 3) := by decide +kernel
theorem dX12_ways_173 : decode cX12_ways 173 = .ok (.goto (-54), 3) := by decide +kernel
theorem dX12_ways_176 : decode cX12_ways 176 = .ok (.iinc 5 1, 3) := by decide +kernel
theorem dX12_ways_179 : decode cX12_ways 179 = .ok (.goto (-74), 3) := by decide +kernel
theorem dX12_ways_182 : decode cX12_ways 182 = .ok (.iconst 0, 1) := by decide +kernel
theorem dX12_ways_183 : decode cX12_ways 183 = .ok (.istore 5, 2) := by decide +kernel
theorem dX12_ways_185 : decode cX12_ways 185 = .ok (.iload 5, 2) := by decide +kernel
theorem dX12_ways_187 : decode cX12_ways 187 = .ok (.bipush 8, 2) := by decide +kernel
theorem dX12_ways_189 : decode cX12_ways 189 = .ok (.if_icmp .ge 26, 3) := by decide +kernel
theorem dX12_ways_192 : decode cX12_ways 192 = .ok (.aload_n 0, 1) := by decide +kernel
theorem dX12_ways_193 : decode cX12_ways 193 = .ok (.getfield 130, 3) := by decide +kernel
theorem dX12_ways_196 : decode cX12_ways 196 = .ok (.iload 5, 2) := by decide +kernel
theorem dX12_ways_198 : decode cX12_ways 198 = .ok (.aload_n 0, 1) := by decide +kernel
theorem dX12_ways_199 : decode cX12_ways 199 = .ok (.getfield 130, 3) := by decide +kernel
theorem dX12_ways_202 : decode cX12_ways 202 = .ok (.bipush 8, 2) := by decide +kernel
theorem dX12_ways_204 : decode cX12_ways 204 = .ok (.iload 5, 2) := by decide +kernel
theorem dX12_ways_206 : decode cX12_ways 206 = .ok (.iadd, 1) := by decide +kernel
theorem dX12_ways_207 : decode cX12_ways 207 = .ok (.iaload, 1) := by decide +kernel
theorem dX12_ways_208 : decode cX12_ways 208 = .ok (.iastore, 1) := by decide +kernel
theorem dX12_ways_209 : decode cX12_ways 209 = .ok (.iinc 5 1, 3) := by decide +kernel
theorem dX12_ways_212 : decode cX12_ways 212 = .ok (.goto (-27), 3) := by decide +kernel
theorem dX12_ways_215 : decode cX12_ways 215 = .ok (.iinc 4 1, 3) := by decide +kernel
theorem dX12_ways_218 : decode cX12_ways 218 = .ok (.goto (-149), 3) := by decide +kernel
theorem dX12_ways_221 : decode cX12_ways 221 = .ok (.aload_n 0, 1) := by decide +kernel
theorem dX12_ways_222 : decode cX12_ways 222 = .ok (.getfield 130, 3) := by decide +kernel
theorem dX12_ways_225 : decode cX12_ways 225 = .ok (.iload_n 2, 1) := by decide +kernel
theorem dX12_ways_226 : decode cX12_ways 226 = .ok (.iaload, 1) := by decide +kernel
theorem dX12_ways_227 : decode cX12_ways 227 = .ok (.ireturn, 1) := by decide +kernel
theorem dX12_guess_0 : decode cX12_guess 0 = .ok (.aload_n 0, 1) := by decide +kernel
theorem dX12_guess_1 : decode cX12_guess 1 = .ok (.iconst 0, 1) := by decide +kernel
theorem dX12_guess_2 : decode cX12_guess 2 = .ok (.putfield 143, 3) := by decide +kernel
theorem dX12_guess_5 : decode cX12_guess 5 = .ok (.aload_n 0, 1) := by decide +kernel
theorem dX12_guess_6 : decode cX12_guess 6 = .ok (.iload_n 1, 1) := by decide +kernel
theorem dX12_guess_7 : decode cX12_guess 7 = .ok (.invokevirtual 384, 3) := by decide +kernel
theorem dX12_guess_10 : decode cX12_guess 10 = .ok (.ifCond .eq 14, 3) := by decide +kernel
theorem dX12_guess_13 : decode cX12_guess 13 = .ok (.aload_n 0, 1) := by decide +kernel
theorem dX12_guess_14 : decode cX12_guess 14 = .ok (.getfield 93, 3) := by decide +kernel
theorem dX12_guess_17 : decode cX12_guess 17 = .ok (.iconst 0, 1) := by decide +kernel
theorem dX12_guess_18 : decode cX12_guess 18 = .ok (.iaload, 1) := by decide +kernel
theorem dX12_guess_19 : decode cX12_guess 19 = .ok (.bipush 8, 2) := by decide +kernel
theorem dX12_guess_21 : decode cX12_guess 21 = .ok (.if_icmp .ne 5, 3) := by decide +kernel
theorem dX12_guess_24 : decode cX12_guess 24 = .ok (.iconst 0, 1) := by decide +kernel
theorem dX12_guess_25 : decode cX12_guess 25 = .ok (.ireturn, 1) := by decide +kernel
theorem dX12_guess_26 : decode cX12_guess 26 = .ok (.aload_n 0, 1) := by decide +kernel
theorem dX12_guess_27 : decode cX12_guess 27 = .ok (.getfield 96, 3) := by decide +kernel
theorem dX12_guess_30 : decode cX12_guess 30 = .ok (.aload_n 0, 1) := by decide +kernel
theorem dX12_guess_31 : decode cX12_guess 31 = .ok (.getfield 93, 3) := by decide +kernel
theorem dX12_guess_34 : decode cX12_guess 34 = .ok (.iconst 0, 1) := by decide +kernel
theorem dX12_guess_35 : decode cX12_guess 35 = .ok (.iaload, 1) := by decide +kernel
theorem dX12_guess_36 : decode cX12_guess 36 = .ok (.iload_n 1, 1) := by decide +kernel
theorem dX12_guess_37 : decode cX12_guess 37 = .ok (.iastore, 1) := by decide +kernel
theorem dX12_guess_38 : decode cX12_guess 38 = .ok (.aload_n 0, 1) := by decide +kernel
theorem dX12_guess_39 : decode cX12_guess 39 = .ok (.getfield 99, 3) := by decide +kernel
theorem dX12_guess_42 : decode cX12_guess 42 = .ok (.aload_n 0, 1) := by decide +kernel
theorem dX12_guess_43 : decode cX12_guess 43 = .ok (.getfield 93, 3) := by decide +kernel
theorem dX12_guess_46 : decode cX12_guess 46 = .ok (.iconst 0, 1) := by decide +kernel
theorem dX12_guess_47 : decode cX12_guess 47 = .ok (.iaload, 1) := by decide +kernel
theorem dX12_guess_48 : decode cX12_guess 48 = .ok (.iload_n 2, 1) := by decide +kernel
theorem dX12_guess_49 : decode cX12_guess 49 = .ok (.bastore, 1) := by decide +kernel
theorem dX12_guess_50 : decode cX12_guess 50 = .ok (.aload_n 0, 1) := by decide +kernel
theorem dX12_guess_51 : decode cX12_guess 51 = .ok (.getfield 93, 3) := by decide +kernel
theorem dX12_guess_54 : decode cX12_guess 54 = .ok (.iconst 0, 1) := by decide +kernel
theorem dX12_guess_55 : decode cX12_guess 55 = .ok (.dup2, 1) := by decide +kernel
theorem dX12_guess_56 : decode cX12_guess 56 = .ok (.iaload, 1) := by decide +kernel
theorem dX12_guess_57 : decode cX12_guess 57 = .ok (.iconst 1, 1) := by decide +kernel
theorem dX12_guess_58 : decode cX12_guess 58 = .ok (.iadd, 1) := by decide +kernel
theorem dX12_guess_59 : decode cX12_guess 59 = .ok (.iastore, 1) := by decide +kernel
theorem dX12_guess_60 : decode cX12_guess 60 = .ok (.iconst 1, 1) := by decide +kernel
theorem dX12_guess_61 : decode cX12_guess 61 = .ok (.ireturn, 1) := by decide +kernel
theorem dX12_dead_0 : decode cX12_dead 0 = .ok (.aload_n 0, 1) := by decide +kernel
theorem dX12_dead_1 : decode cX12_dead 1 = .ok (.iconst 0, 1) := by decide +kernel
theorem dX12_dead_2 : decode cX12_dead 2 = .ok (.putfield 143, 3) := by decide +kernel
theorem dX12_dead_5 : decode cX12_dead 5 = .ok (.iconst 0, 1) := by decide +kernel
theorem dX12_dead_6 : decode cX12_dead 6 = .ok (.istore_n 1, 1) := by decide +kernel
theorem dX12_dead_7 : decode cX12_dead 7 = .ok (.iconst 0, 1) := by decide +kernel
theorem dX12_dead_8 : decode cX12_dead 8 = .ok (.istore_n 2, 1) := by decide +kernel
theorem dX12_dead_9 : decode cX12_dead 9 = .ok (.iload_n 2, 1) := by decide +kernel
theorem dX12_dead_10 : decode cX12_dead 10 = .ok (.aload_n 0, 1) := by decide +kernel
theorem dX12_dead_11 : decode cX12_dead 11 = .ok (.getfield 13, 3) := by decide +kernel
theorem dX12_dead_14 : decode cX12_dead 14 = .ok (.iconst 0, 1) := by decide +kernel
theorem dX12_dead_15 : decode cX12_dead 15 = .ok (.iaload, 1) := by decide +kernel
theorem dX12_dead_16 : decode cX12_dead 16 = .ok (.if_icmp .ge 28, 3) := by decide +kernel
theorem dX12_dead_19 : decode cX12_dead 19 = .ok (.iload_n 1, 1) := by decide +kernel
theorem dX12_dead_20 : decode cX12_dead 20 = .ok (.aload_n 0, 1) := by decide +kernel
theorem dX12_dead_21 : decode cX12_dead 21 = .ok (.getfield 29, 3) := by decide +kernel
theorem dX12_dead_24 : decode cX12_dead 24 = .ok (.iload_n 2, 1) := by decide +kernel
theorem dX12_dead_25 : decode cX12_dead 25 = .ok (.iaload, 1) := by decide +kernel
theorem dX12_dead_26 : decode cX12_dead 26 = .ok (.ifCond .ne 9, 3) := by decide +kernel
theorem dX12_dead_29 : decode cX12_dead 29 = .ok (.iconst 1, 1) := by decide +kernel
theorem dX12_dead_30 : decode cX12_dead 30 = .ok (.iload_n 2, 1) := by decide +kernel
theorem dX12_dead_31 : decode cX12_dead 31 = .ok (.ishl, 1) := by decide +kernel
theorem dX12_dead_32 : decode cX12_dead 32 = .ok (.goto 4, 3) := by decide +kernel
theorem dX12_dead_35 : decode cX12_dead 35 = .ok (.iconst 0, 1) := by decide +kernel
theorem dX12_dead_36 : decode cX12_dead 36 = .ok (.ior, 1) := by decide +kernel
theorem dX12_dead_37 : decode cX12_dead 37 = .ok (.istore_n 1, 1) := by decide +kernel
theorem dX12_dead_38 : decode cX12_dead 38 = .ok (.iinc 2 1, 3) := by decide +kernel
theorem dX12_dead_41 : decode cX12_dead 41 = .ok (.goto (-32), 3) := by decide +kernel
theorem dX12_dead_44 : decode cX12_dead 44 = .ok (.iload_n 1, 1) := by decide +kernel
theorem dX12_dead_45 : decode cX12_dead 45 = .ok (.ireturn, 1) := by decide +kernel
theorem dX12_poorest_0 : decode cX12_poorest 0 = .ok (.aload_n 0, 1) := by decide +kernel
theorem dX12_poorest_1 : decode cX12_poorest 1 = .ok (.iconst 0, 1) := by decide +kernel
theorem dX12_poorest_2 : decode cX12_poorest 2 = .ok (.putfield 143, 3) := by decide +kernel
theorem dX12_poorest_5 : decode cX12_poorest 5 = .ok (.iconst (-1), 1) := by decide +kernel
theorem dX12_poorest_6 : decode cX12_poorest 6 = .ok (.istore_n 1, 1) := by decide +kernel
theorem dX12_poorest_7 : decode cX12_poorest 7 = .ok (.iconst 0, 1) := by decide +kernel
theorem dX12_poorest_8 : decode cX12_poorest 8 = .ok (.istore_n 2, 1) := by decide +kernel
theorem dX12_poorest_9 : decode cX12_poorest 9 = .ok (.iload_n 2, 1) := by decide +kernel
theorem dX12_poorest_10 : decode cX12_poorest 10 = .ok (.aload_n 0, 1) := by decide +kernel
theorem dX12_poorest_11 : decode cX12_poorest 11 = .ok (.getfield 13, 3) := by decide +kernel
theorem dX12_poorest_14 : decode cX12_poorest 14 = .ok (.iconst 1, 1) := by decide +kernel
theorem dX12_poorest_15 : decode cX12_poorest 15 = .ok (.iaload, 1) := by decide +kernel
theorem dX12_poorest_16 : decode cX12_poorest 16 = .ok (.if_icmp .ge 36, 3) := by decide +kernel
theorem dX12_poorest_19 : decode cX12_poorest 19 = .ok (.aload_n 0, 1) := by decide +kernel
theorem dX12_poorest_20 : decode cX12_poorest 20 = .ok (.iload_n 2, 1) := by decide +kernel
theorem dX12_poorest_21 : decode cX12_poorest 21 = .ok (.invokevirtual 356, 3) := by decide +kernel
theorem dX12_poorest_24 : decode cX12_poorest 24 = .ok (.ifCond .ne 22, 3) := by decide +kernel
theorem dX12_poorest_27 : decode cX12_poorest 27 = .ok (.iload_n 1, 1) := by decide +kernel
theorem dX12_poorest_28 : decode cX12_poorest 28 = .ok (.ifCond .lt 16, 3) := by decide +kernel
theorem dX12_poorest_31 : decode cX12_poorest 31 = .ok (.aload_n 0, 1) := by decide +kernel
theorem dX12_poorest_32 : decode cX12_poorest 32 = .ok (.iload_n 2, 1) := by decide +kernel
theorem dX12_poorest_33 : decode cX12_poorest 33 = .ok (.invokevirtual 462, 3) := by decide +kernel
theorem dX12_poorest_36 : decode cX12_poorest 36 = .ok (.aload_n 0, 1) := by decide +kernel
theorem dX12_poorest_37 : decode cX12_poorest 37 = .ok (.iload_n 1, 1) := by decide +kernel
theorem dX12_poorest_38 : decode cX12_poorest 38 = .ok (.invokevirtual 462, 3) := by decide +kernel
theorem dX12_poorest_41 : decode cX12_poorest 41 = .ok (.if_icmp .ge 5, 3) := by decide +kernel
theorem dX12_poorest_44 : decode cX12_poorest 44 = .ok (.iload_n 2, 1) := by decide +kernel
theorem dX12_poorest_45 : decode cX12_poorest 45 = .ok (.istore_n 1, 1) := by decide +kernel
theorem dX12_poorest_46 : decode cX12_poorest 46 = .ok (.iinc 2 1, 3) := by decide +kernel
theorem dX12_poorest_49 : decode cX12_poorest 49 = .ok (.goto (-40), 3) := by decide +kernel
theorem dX12_poorest_52 : decode cX12_poorest 52 = .ok (.iload_n 1, 1) := by decide +kernel
theorem dX12_poorest_53 : decode cX12_poorest 53 = .ok (.ireturn, 1) := by decide +kernel
theorem dX12_fitting_0 : decode cX12_fitting 0 = .ok (.iconst 0, 1) := by decide +kernel
theorem dX12_fitting_1 : decode cX12_fitting 1 = .ok (.istore_n 1, 1) := by decide +kernel
theorem dX12_fitting_2 : decode cX12_fitting 2 = .ok (.iconst 0, 1) := by decide +kernel
theorem dX12_fitting_3 : decode cX12_fitting 3 = .ok (.istore_n 2, 1) := by decide +kernel
theorem dX12_fitting_4 : decode cX12_fitting 4 = .ok (.iload_n 2, 1) := by decide +kernel
theorem dX12_fitting_5 : decode cX12_fitting 5 = .ok (.aload_n 0, 1) := by decide +kernel
theorem dX12_fitting_6 : decode cX12_fitting 6 = .ok (.getfield 13, 3) := by decide +kernel
theorem dX12_fitting_9 : decode cX12_fitting 9 = .ok (.iconst 0, 1) := by decide +kernel
theorem dX12_fitting_10 : decode cX12_fitting 10 = .ok (.iaload, 1) := by decide +kernel
theorem dX12_fitting_11 : decode cX12_fitting 11 = .ok (.if_icmp .ge 90, 3) := by decide +kernel
theorem dX12_fitting_14 : decode cX12_fitting 14 = .ok (.iconst 1, 1) := by decide +kernel
theorem dX12_fitting_15 : decode cX12_fitting 15 = .ok (.istore_n 3, 1) := by decide +kernel
theorem dX12_fitting_16 : decode cX12_fitting 16 = .ok (.iconst 0, 1) := by decide +kernel
theorem dX12_fitting_17 : decode cX12_fitting 17 = .ok (.istore 4, 2) := by decide +kernel
theorem dX12_fitting_19 : decode cX12_fitting 19 = .ok (.iload 4, 2) := by decide +kernel
theorem dX12_fitting_21 : decode cX12_fitting 21 = .ok (.aload_n 0, 1) := by decide +kernel
theorem dX12_fitting_22 : decode cX12_fitting 22 = .ok (.getfield 93, 3) := by decide +kernel
theorem dX12_fitting_25 : decode cX12_fitting 25 = .ok (.iconst 0, 1) := by decide +kernel
theorem dX12_fitting_26 : decode cX12_fitting 26 = .ok (.iaload, 1) := by decide +kernel
theorem dX12_fitting_27 : decode cX12_fitting 27 = .ok (.if_icmp .ge 54, 3) := by decide +kernel
theorem dX12_fitting_30 : decode cX12_fitting 30 = .ok (.iload_n 3, 1) := by decide +kernel
theorem dX12_fitting_31 : decode cX12_fitting 31 = .ok (.ifCond .eq 42, 3) := by decide +kernel
theorem dX12_fitting_34 : decode cX12_fitting 34 = .ok (.aload_n 0, 1) := by decide +kernel
theorem dX12_fitting_35 : decode cX12_fitting 35 = .ok (.getfield 29, 3) := by decide +kernel
theorem dX12_fitting_38 : decode cX12_fitting 38 = .ok (.iload_n 2, 1) := by decide +kernel
theorem dX12_fitting_39 : decode cX12_fitting 39 = .ok (.iaload, 1) := by decide +kernel
theorem dX12_fitting_40 : decode cX12_fitting 40 = .ok (.aload_n 0, 1) := by decide +kernel
theorem dX12_fitting_41 : decode cX12_fitting 41 = .ok (.getfield 96, 3) := by decide +kernel
theorem dX12_fitting_44 : decode cX12_fitting 44 = .ok (.iload 4, 2) := by decide +kernel
theorem dX12_fitting_46 : decode cX12_fitting 46 = .ok (.iaload, 1) := by decide +kernel
theorem dX12_fitting_47 : decode cX12_fitting 47 = .ok (.ishr, 1) := by decide +kernel
theorem dX12_fitting_48 : decode cX12_fitting 48 = .ok (.iconst 1, 1) := by decide +kernel
theorem dX12_fitting_49 : decode cX12_fitting 49 = .ok (.iand, 1) := by decide +kernel
theorem dX12_fitting_50 : decode cX12_fitting 50 = .ok (.iconst 1, 1) := by decide +kernel
theorem dX12_fitting_51 : decode cX12_fitting 51 = .ok (.if_icmp .ne 7, 3) := by decide +kernel
theorem dX12_fitting_54 : decode cX12_fitting 54 = .ok (.iconst 1, 1) := by decide +kernel
theorem dX12_fitting_55 : decode cX12_fitting 55 = .ok (.goto 4, 3) := by decide +kernel
theorem dX12_fitting_58 : decode cX12_fitting 58 = .ok (.iconst 0, 1) := by decide +kernel
theorem dX12_fitting_59 : decode cX12_fitting 59 = .ok (.aload_n 0, 1) := by decide +kernel
theorem dX12_fitting_60 : decode cX12_fitting 60 = .ok (.getfield 99, 3) := by decide +kernel
theorem dX12_fitting_63 : decode cX12_fitting 63 = .ok (.iload 4, 2) := by decide +kernel
theorem dX12_fitting_65 : decode cX12_fitting 65 = .ok (.baload, 1) := by decide +kernel
theorem dX12_fitting_66 : decode cX12_fitting 66 = .ok (.if_icmp .ne 7, 3) := by decide +kernel
theorem dX12_fitting_69 : decode cX12_fitting 69 = .ok (.iconst 1, 1) := by decide +kernel
theorem dX12_fitting_70 : decode cX12_fitting 70 = .ok (.goto 4, 3) := by decide +kernel
theorem dX12_fitting_73 : decode cX12_fitting 73 = .ok (.iconst 0, 1) := by decide +kernel
theorem dX12_fitting_74 : decode cX12_fitting 74 = .ok (.istore_n 3, 1) := by decide +kernel
theorem dX12_fitting_75 : decode cX12_fitting 75 = .ok (.iinc 4 1, 3) := by decide +kernel
theorem dX12_fitting_78 : decode cX12_fitting 78 = .ok (.goto (-59), 3) := by decide +kernel
theorem dX12_fitting_81 : decode cX12_fitting 81 = .ok (.iload_n 1, 1) := by decide +kernel
theorem dX12_fitting_82 : decode cX12_fitting 82 = .ok (.iload_n 3, 1) := by decide +kernel
theorem dX12_fitting_83 : decode cX12_fitting 83 = .ok (.ifCond .eq 9, 3) := by decide +kernel
theorem dX12_fitting_86 : decode cX12_fitting 86 = .ok (.iconst 1, 1) := by decide +kernel
theorem dX12_fitting_87 : decode cX12_fitting 87 = .ok (.iload_n 2, 1) := by decide +kernel
theorem dX12_fitting_88 : decode cX12_fitting 88 = .ok (.ishl, 1) := by decide +kernel
theorem dX12_fitting_89 : decode cX12_fitting 89 = .ok (.goto 4, 3) := by decide +kernel
theorem dX12_fitting_92 : decode cX12_fitting 92 = .ok (.iconst 0, 1) := by decide +kernel
theorem dX12_fitting_93 : decode cX12_fitting 93 = .ok (.ior, 1) := by decide +kernel
theorem dX12_fitting_94 : decode cX12_fitting 94 = .ok (.istore_n 1, 1) := by decide +kernel
theorem dX12_fitting_95 : decode cX12_fitting 95 = .ok (.iinc 2 1, 3) := by decide +kernel
theorem dX12_fitting_98 : decode cX12_fitting 98 = .ok (.goto (-94), 3) := by decide +kernel
theorem dX12_fitting_101 : decode cX12_fitting 101 = .ok (.iload_n 1, 1) := by decide +kernel
theorem dX12_fitting_102 : decode cX12_fitting 102 = .ok (.ireturn, 1) := by decide +kernel
theorem dX12_fits_0 : decode cX12_fits 0 = .ok (.aload_n 0, 1) := by decide +kernel
theorem dX12_fits_1 : decode cX12_fits 1 = .ok (.iconst 0, 1) := by decide +kernel
theorem dX12_fits_2 : decode cX12_fits 2 = .ok (.putfield 143, 3) := by decide +kernel
theorem dX12_fits_5 : decode cX12_fits 5 = .ok (.aload_n 0, 1) := by decide +kernel
theorem dX12_fits_6 : decode cX12_fits 6 = .ok (.invokevirtual 471, 3) := by decide +kernel
theorem dX12_fits_9 : decode cX12_fits 9 = .ok (.ireturn, 1) := by decide +kernel
theorem dX12_bits_0 : decode cX12_bits 0 = .ok (.iconst 0, 1) := by decide +kernel
theorem dX12_bits_1 : decode cX12_bits 1 = .ok (.istore_n 1, 1) := by decide +kernel
theorem dX12_bits_2 : decode cX12_bits 2 = .ok (.iconst 0, 1) := by decide +kernel
theorem dX12_bits_3 : decode cX12_bits 3 = .ok (.istore_n 2, 1) := by decide +kernel
theorem dX12_bits_4 : decode cX12_bits 4 = .ok (.iload_n 2, 1) := by decide +kernel
theorem dX12_bits_5 : decode cX12_bits 5 = .ok (.bipush 8, 2) := by decide +kernel
theorem dX12_bits_7 : decode cX12_bits 7 = .ok (.if_icmp .ge 17, 3) := by decide +kernel
theorem dX12_bits_10 : decode cX12_bits 10 = .ok (.iload_n 1, 1) := by decide +kernel
theorem dX12_bits_11 : decode cX12_bits 11 = .ok (.iload_n 0, 1) := by decide +kernel
theorem dX12_bits_12 : decode cX12_bits 12 = .ok (.iload_n 2, 1) := by decide +kernel
theorem dX12_bits_13 : decode cX12_bits 13 = .ok (.ishr, 1) := by decide +kernel
theorem dX12_bits_14 : decode cX12_bits 14 = .ok (.iconst 1, 1) := by decide +kernel
theorem dX12_bits_15 : decode cX12_bits 15 = .ok (.iand, 1) := by decide +kernel
theorem dX12_bits_16 : decode cX12_bits 16 = .ok (.iadd, 1) := by decide +kernel
theorem dX12_bits_17 : decode cX12_bits 17 = .ok (.istore_n 1, 1) := by decide +kernel
theorem dX12_bits_18 : decode cX12_bits 18 = .ok (.iinc 2 1, 3) := by decide +kernel
theorem dX12_bits_21 : decode cX12_bits 21 = .ok (.goto (-17), 3) := by decide +kernel
theorem dX12_bits_24 : decode cX12_bits 24 = .ok (.iload_n 1, 1) := by decide +kernel
theorem dX12_bits_25 : decode cX12_bits 25 = .ok (.ireturn, 1) := by decide +kernel
theorem dX12_ask_0 : decode cX12_ask 0 = .ok (.aload_n 0, 1) := by decide +kernel
theorem dX12_ask_1 : decode cX12_ask 1 = .ok (.iconst 0, 1) := by decide +kernel
theorem dX12_ask_2 : decode cX12_ask 2 = .ok (.putfield 143, 3) := by decide +kernel
theorem dX12_ask_5 : decode cX12_ask 5 = .ok (.aload_n 0, 1) := by decide +kernel
theorem dX12_ask_6 : decode cX12_ask 6 = .ok (.invokevirtual 471, 3) := by decide +kernel
theorem dX12_ask_9 : decode cX12_ask 9 = .ok (.istore_n 1, 1) := by decide +kernel
theorem dX12_ask_10 : decode cX12_ask 10 = .ok (.iload_n 1, 1) := by decide +kernel
theorem dX12_ask_11 : decode cX12_ask 11 = .ok (.invokestatic 446, 3) := by decide +kernel
theorem dX12_ask_14 : decode cX12_ask 14 = .ok (.istore_n 2, 1) := by decide +kernel
theorem dX12_ask_15 : decode cX12_ask 15 = .ok (.iconst (-1), 1) := by decide +kernel
theorem dX12_ask_16 : decode cX12_ask 16 = .ok (.istore_n 3, 1) := by decide +kernel
theorem dX12_ask_17 : decode cX12_ask 17 = .ok (.iconst 0, 1) := by decide +kernel
theorem dX12_ask_18 : decode cX12_ask 18 = .ok (.istore 4, 2) := by decide +kernel
theorem dX12_ask_20 : decode cX12_ask 20 = .ok (.iload 4, 2) := by decide +kernel
theorem dX12_ask_22 : decode cX12_ask 22 = .ok (.aload_n 0, 1) := by decide +kernel
theorem dX12_ask_23 : decode cX12_ask 23 = .ok (.getfield 13, 3) := by decide +kernel
theorem dX12_ask_26 : decode cX12_ask 26 = .ok (.iconst 0, 1) := by decide +kernel
theorem dX12_ask_27 : decode cX12_ask 27 = .ok (.iaload, 1) := by decide +kernel
theorem dX12_ask_28 : decode cX12_ask 28 = .ok (.if_icmp .ge 97, 3) := by decide +kernel
theorem dX12_ask_31 : decode cX12_ask 31 = .ok (.iconst 0, 1) := by decide +kernel
theorem dX12_ask_32 : decode cX12_ask 32 = .ok (.istore 5, 2) := by decide +kernel
theorem dX12_ask_34 : decode cX12_ask 34 = .ok (.iconst 0, 1) := by decide +kernel
theorem dX12_ask_35 : decode cX12_ask 35 = .ok (.istore 6, 2) := by decide +kernel
theorem dX12_ask_37 : decode cX12_ask 37 = .ok (.iload 6, 2) := by decide +kernel
theorem dX12_ask_39 : decode cX12_ask 39 = .ok (.aload_n 0, 1) := by decide +kernel
theorem dX12_ask_40 : decode cX12_ask 40 = .ok (.getfield 13, 3) := by decide +kernel
theorem dX12_ask_43 : decode cX12_ask 43 = .ok (.iconst 0, 1) := by decide +kernel
theorem dX12_ask_44 : decode cX12_ask 44 = .ok (.iaload, 1) := by decide +kernel
theorem dX12_ask_45 : decode cX12_ask 45 = .ok (.if_icmp .ge 45, 3) := by decide +kernel
theorem dX12_ask_48 : decode cX12_ask 48 = .ok (.iload 5, 2) := by decide +kernel
theorem dX12_ask_50 : decode cX12_ask 50 = .ok (.iload_n 1, 1) := by decide +kernel
theorem dX12_ask_51 : decode cX12_ask 51 = .ok (.iload 6, 2) := by decide +kernel
theorem dX12_ask_53 : decode cX12_ask 53 = .ok (.ishr, 1) := by decide +kernel
theorem dX12_ask_54 : decode cX12_ask 54 = .ok (.iconst 1, 1) := by decide +kernel
theorem dX12_ask_55 : decode cX12_ask 55 = .ok (.iand, 1) := by decide +kernel
theorem dX12_ask_56 : decode cX12_ask 56 = .ok (.iconst 1, 1) := by decide +kernel
theorem dX12_ask_57 : decode cX12_ask 57 = .ok (.if_icmp .ne 23, 3) := by decide +kernel
theorem dX12_ask_60 : decode cX12_ask 60 = .ok (.aload_n 0, 1) := by decide +kernel
theorem dX12_ask_61 : decode cX12_ask 61 = .ok (.getfield 29, 3) := by decide +kernel
theorem dX12_ask_64 : decode cX12_ask 64 = .ok (.iload 6, 2) := by decide +kernel
theorem dX12_ask_66 : decode cX12_ask 66 = .ok (.iaload, 1) := by decide +kernel
theorem dX12_ask_67 : decode cX12_ask 67 = .ok (.iload 4, 2) := by decide +kernel
theorem dX12_ask_69 : decode cX12_ask 69 = .ok (.ishr, 1) := by decide +kernel
theorem dX12_ask_70 : decode cX12_ask 70 = .ok (.iconst 1, 1) := by decide +kernel
theorem dX12_ask_71 : decode cX12_ask 71 = .ok (.iand, 1) := by decide +kernel
theorem dX12_ask_72 : decode cX12_ask 72 = .ok (.iconst 1, 1) := by decide +kernel
theorem dX12_ask_73 : decode cX12_ask 73 = .ok (.if_icmp .ne 7, 3) := by decide +kernel
theorem dX12_ask_76 : decode cX12_ask 76 = .ok (.iconst 1, 1) := by decide +kernel
theorem dX12_ask_77 : decode cX12_ask 77 = .ok (.goto 4, 3) := by decide +kernel
theorem dX12_ask_80 : decode cX12_ask 80 = .ok (.iconst 0, 1) := by decide +kernel
theorem dX12_ask_81 : decode cX12_ask 81 = .ok (.iadd, 1) := by decide +kernel
theorem dX12_ask_82 : decode cX12_ask 82 = .ok (.istore 5, 2) := by decide +kernel
theorem dX12_ask_84 : decode cX12_ask 84 = .ok (.iinc 6 1, 3) := by decide +kernel
theorem dX12_ask_87 : decode cX12_ask 87 = .ok (.goto (-50), 3) := by decide +kernel
theorem dX12_ask_90 : decode cX12_ask 90 = .ok (.iload 5, 2) := by decide +kernel
theorem dX12_ask_92 : decode cX12_ask 92 = .ok (.iload_n 1, 1) := by decide +kernel
theorem dX12_ask_93 : decode cX12_ask 93 = .ok (.invokestatic 446, 3) := by decide +kernel
theorem dX12_ask_96 : decode cX12_ask 96 = .ok (.iload 5, 2) := by decide +kernel
theorem dX12_ask_98 : decode cX12_ask 98 = .ok (.isub, 1) := by decide +kernel
theorem dX12_ask_99 : decode cX12_ask 99 = .ok (.invokestatic 379, 3) := by decide +kernel
theorem dX12_ask_102 : decode cX12_ask 102 = .ok (.istore 5, 2) := by decide +kernel
theorem dX12_ask_104 : decode cX12_ask 104 = .ok (.iload 5, 2) := by decide +kernel
theorem dX12_ask_106 : decode cX12_ask 106 = .ok (.iload_n 2, 1) := by decide +kernel
theorem dX12_ask_107 : decode cX12_ask 107 = .ok (.if_icmp .lt 6, 3) := by decide +kernel
theorem dX12_ask_110 : decode cX12_ask 110 = .ok (.goto 9, 3) := by decide +kernel
theorem dX12_ask_113 : decode cX12_ask 113 = .ok (.iload 5, 2) := by decide +kernel
theorem dX12_ask_115 : decode cX12_ask 115 = .ok (.istore_n 2, 1) := by decide +kernel
theorem dX12_ask_116 : decode cX12_ask 116 = .ok (.iload 4, 2) := by decide +kernel
theorem dX12_ask_118 : decode cX12_ask 118 = .ok (.istore_n 3, 1) := by decide +kernel
theorem dX12_ask_119 : decode cX12_ask 119 = .ok (.iinc 4 1, 3) := by decide +kernel
theorem dX12_ask_122 : decode cX12_ask 122 = .ok (.goto (-102), 3) := by decide +kernel
theorem dX12_ask_125 : decode cX12_ask 125 = .ok (.iload_n 3, 1) := by decide +kernel
theorem dX12_ask_126 : decode cX12_ask 126 = .ok (.ireturn, 1) := by decide +kernel
theorem dX12_lacking_0 : decode cX12_lacking 0 = .ok (.iconst 1, 1) := by decide +kernel
theorem dX12_lacking_1 : decode cX12_lacking 1 = .ok (.aload_n 0, 1) := by decide +kernel
theorem dX12_lacking_2 : decode cX12_lacking 2 = .ok (.getfield 13, 3) := by decide +kernel
theorem dX12_lacking_5 : decode cX12_lacking 5 = .ok (.iconst 4, 1) := by decide +kernel
theorem dX12_lacking_6 : decode cX12_lacking 6 = .ok (.iaload, 1) := by decide +kernel
theorem dX12_lacking_7 : decode cX12_lacking 7 = .ok (.ishl, 1) := by decide +kernel
theorem dX12_lacking_8 : decode cX12_lacking 8 = .ok (.iconst 1, 1) := by decide +kernel
theorem dX12_lacking_9 : decode cX12_lacking 9 = .ok (.isub, 1) := by decide +kernel
theorem dX12_lacking_10 : decode cX12_lacking 10 = .ok (.istore_n 1, 1) := by decide +kernel
theorem dX12_lacking_11 : decode cX12_lacking 11 = .ok (.iconst 0, 1) := by decide +kernel
theorem dX12_lacking_12 : decode cX12_lacking 12 = .ok (.istore_n 2, 1) := by decide +kernel
theorem dX12_lacking_13 : decode cX12_lacking 13 = .ok (.iload_n 2, 1) := by decide +kernel
theorem dX12_lacking_14 : decode cX12_lacking 14 = .ok (.aload_n 0, 1) := by decide +kernel
theorem dX12_lacking_15 : decode cX12_lacking 15 = .ok (.getfield 13, 3) := by decide +kernel
theorem dX12_lacking_18 : decode cX12_lacking 18 = .ok (.iconst 0, 1) := by decide +kernel
theorem dX12_lacking_19 : decode cX12_lacking 19 = .ok (.iaload, 1) := by decide +kernel
theorem dX12_lacking_20 : decode cX12_lacking 20 = .ok (.if_icmp .ge 45, 3) := by decide +kernel
theorem dX12_lacking_23 : decode cX12_lacking 23 = .ok (.aload_n 0, 1) := by decide +kernel
theorem dX12_lacking_24 : decode cX12_lacking 24 = .ok (.getfield 26, 3) := by decide +kernel
theorem dX12_lacking_27 : decode cX12_lacking 27 = .ok (.iload_n 2, 1) := by decide +kernel
theorem dX12_lacking_28 : decode cX12_lacking 28 = .ok (.iaload, 1) := by decide +kernel
theorem dX12_lacking_29 : decode cX12_lacking 29 = .ok (.ifCond .le 30, 3) := by decide +kernel
theorem dX12_lacking_32 : decode cX12_lacking 32 = .ok (.aload_n 0, 1) := by decide +kernel
theorem dX12_lacking_33 : decode cX12_lacking 33 = .ok (.getfield 102, 3) := by decide +kernel
theorem dX12_lacking_36 : decode cX12_lacking 36 = .ok (.bipush 125, 2) := by decide +kernel
theorem dX12_lacking_38 : decode cX12_lacking 38 = .ok (.iload_n 2, 1) := by decide +kernel
theorem dX12_lacking_39 : decode cX12_lacking 39 = .ok (.iadd, 1) := by decide +kernel
theorem dX12_lacking_40 : decode cX12_lacking 40 = .ok (.iaload, 1) := by decide +kernel
theorem dX12_lacking_41 : decode cX12_lacking 41 = .ok (.ifCond .le 18, 3) := by decide +kernel
theorem dX12_lacking_44 : decode cX12_lacking 44 = .ok (.iload_n 1, 1) := by decide +kernel
theorem dX12_lacking_45 : decode cX12_lacking 45 = .ok (.iconst 1, 1) := by decide +kernel
theorem dX12_lacking_46 : decode cX12_lacking 46 = .ok (.aload_n 0, 1) := by decide +kernel
theorem dX12_lacking_47 : decode cX12_lacking 47 = .ok (.getfield 26, 3) := by decide +kernel
theorem dX12_lacking_50 : decode cX12_lacking 50 = .ok (.iload_n 2, 1) := by decide +kernel
theorem dX12_lacking_51 : decode cX12_lacking 51 = .ok (.iaload, 1) := by decide +kernel
theorem dX12_lacking_52 : decode cX12_lacking 52 = .ok (.iconst 1, 1) := by decide +kernel
theorem dX12_lacking_53 : decode cX12_lacking 53 = .ok (.isub, 1) := by decide +kernel
theorem dX12_lacking_54 : decode cX12_lacking 54 = .ok (.ishl, 1) := by decide +kernel
theorem dX12_lacking_55 : decode cX12_lacking 55 = .ok (.iconst (-1), 1) := by decide +kernel
theorem dX12_lacking_56 : decode cX12_lacking 56 = .ok (.ixor, 1) := by decide +kernel
theorem dX12_lacking_57 : decode cX12_lacking 57 = .ok (.iand, 1) := by decide +kernel
theorem dX12_lacking_58 : decode cX12_lacking 58 = .ok (.istore_n 1, 1) := by decide +kernel
theorem dX12_lacking_59 : decode cX12_lacking 59 = .ok (.iinc 2 1, 3) := by decide +kernel
theorem dX12_lacking_62 : decode cX12_lacking 62 = .ok (.goto (-49), 3) := by decide +kernel
theorem dX12_lacking_65 : decode cX12_lacking 65 = .ok (.iload_n 1, 1) := by decide +kernel
theorem dX12_lacking_66 : decode cX12_lacking 66 = .ok (.ireturn, 1) := by decide +kernel
theorem dX12_lacks_0 : decode cX12_lacks 0 = .ok (.aload_n 0, 1) := by decide +kernel
theorem dX12_lacks_1 : decode cX12_lacks 1 = .ok (.iconst 0, 1) := by decide +kernel
theorem dX12_lacks_2 : decode cX12_lacks 2 = .ok (.putfield 143, 3) := by decide +kernel
theorem dX12_lacks_5 : decode cX12_lacks 5 = .ok (.aload_n 0, 1) := by decide +kernel
theorem dX12_lacks_6 : decode cX12_lacks 6 = .ok (.invokevirtual 453, 3) := by decide +kernel
theorem dX12_lacks_9 : decode cX12_lacks 9 = .ok (.ireturn, 1) := by decide +kernel
theorem dX12_whoRan_0 : decode cX12_whoRan 0 = .ok (.iconst 0, 1) := by decide +kernel
theorem dX12_whoRan_1 : decode cX12_whoRan 1 = .ok (.istore_n 1, 1) := by decide +kernel
theorem dX12_whoRan_2 : decode cX12_whoRan 2 = .ok (.iconst 0, 1) := by decide +kernel
theorem dX12_whoRan_3 : decode cX12_whoRan 3 = .ok (.istore_n 2, 1) := by decide +kernel
theorem dX12_whoRan_4 : decode cX12_whoRan 4 = .ok (.iload_n 2, 1) := by decide +kernel
theorem dX12_whoRan_5 : decode cX12_whoRan 5 = .ok (.aload_n 0, 1) := by decide +kernel
theorem dX12_whoRan_6 : decode cX12_whoRan 6 = .ok (.getfield 13, 3) := by decide +kernel
theorem dX12_whoRan_9 : decode cX12_whoRan 9 = .ok (.iconst 1, 1) := by decide +kernel
theorem dX12_whoRan_10 : decode cX12_whoRan 10 = .ok (.iaload, 1) := by decide +kernel
theorem dX12_whoRan_11 : decode cX12_whoRan 11 = .ok (.if_icmp .ge 20, 3) := by decide +kernel
theorem dX12_whoRan_14 : decode cX12_whoRan 14 = .ok (.iload_n 1, 1) := by decide +kernel
theorem dX12_whoRan_15 : decode cX12_whoRan 15 = .ok (.aload_n 0, 1) := by decide +kernel
theorem dX12_whoRan_16 : decode cX12_whoRan 16 = .ok (.iload_n 2, 1) := by decide +kernel
theorem dX12_whoRan_17 : decode cX12_whoRan 17 = .ok (.iconst 3, 1) := by decide +kernel
theorem dX12_whoRan_18 : decode cX12_whoRan 18 = .ok (.invokevirtual 349, 3) := by decide +kernel
theorem dX12_whoRan_21 : decode cX12_whoRan 21 = .ok (.iload_n 2, 1) := by decide +kernel
theorem dX12_whoRan_22 : decode cX12_whoRan 22 = .ok (.ishl, 1) := by decide +kernel
theorem dX12_whoRan_23 : decode cX12_whoRan 23 = .ok (.ior, 1) := by decide +kernel
theorem dX12_whoRan_24 : decode cX12_whoRan 24 = .ok (.istore_n 1, 1) := by decide +kernel
theorem dX12_whoRan_25 : decode cX12_whoRan 25 = .ok (.iinc 2 1, 3) := by decide +kernel
theorem dX12_whoRan_28 : decode cX12_whoRan 28 = .ok (.goto (-24), 3) := by decide +kernel
theorem dX12_whoRan_31 : decode cX12_whoRan 31 = .ok (.iload_n 1, 1) := by decide +kernel
theorem dX12_whoRan_32 : decode cX12_whoRan 32 = .ok (.ireturn, 1) := by decide +kernel
theorem dX12_gainedByAll_0 : decode cX12_gainedByAll 0 = .ok (.iconst 0, 1) := by decide +kernel
theorem dX12_gainedByAll_1 : decode cX12_gainedByAll 1 = .ok (.istore_n 1, 1) := by decide +kernel
theorem dX12_gainedByAll_2 : decode cX12_gainedByAll 2 = .ok (.iconst 0, 1) := by decide +kernel
theorem dX12_gainedByAll_3 : decode cX12_gainedByAll 3 = .ok (.istore_n 2, 1) := by decide +kernel
theorem dX12_gainedByAll_4 : decode cX12_gainedByAll 4 = .ok (.iload_n 2, 1) := by decide +kernel
theorem dX12_gainedByAll_5 : decode cX12_gainedByAll 5 = .ok (.aload_n 0, 1) := by decide +kernel
theorem dX12_gainedByAll_6 : decode cX12_gainedByAll 6 = .ok (.getfield 13, 3) := by decide +kernel
theorem dX12_gainedByAll_9 : decode cX12_gainedByAll 9 = .ok (.iconst 1, 1) := by decide +kernel
theorem dX12_gainedByAll_10 : decode cX12_gainedByAll 10 = .ok (.iaload, 1) := by decide +kernel
theorem dX12_gainedByAll_11 : decode cX12_gainedByAll 11 = .ok (.if_icmp .ge 18, 3) := by decide +kernel
theorem dX12_gainedByAll_14 : decode cX12_gainedByAll 14 = .ok (.iload_n 1, 1) := by decide +kernel
theorem dX12_gainedByAll_15 : decode cX12_gainedByAll 15 = .ok (.aload_n 0, 1) := by decide +kernel
theorem dX12_gainedByAll_16 : decode cX12_gainedByAll 16 = .ok (.iload_n 2, 1) := by decide +kernel
theorem dX12_gainedByAll_17 : decode cX12_gainedByAll 17 = .ok (.iconst 2, 1) := by decide +kernel
theorem dX12_gainedByAll_18 : decode cX12_gainedByAll 18 = .ok (.invokevirtual 349, 3) := by decide +kernel
theorem dX12_gainedByAll_21 : decode cX12_gainedByAll 21 = .ok (.iadd, 1) := by decide +kernel
theorem dX12_gainedByAll_22 : decode cX12_gainedByAll 22 = .ok (.istore_n 1, 1) := by decide +kernel
theorem dX12_gainedByAll_23 : decode cX12_gainedByAll 23 = .ok (.iinc 2 1, 3) := by decide +kernel
theorem dX12_gainedByAll_26 : decode cX12_gainedByAll 26 = .ok (.goto (-22), 3) := by decide +kernel
theorem dX12_gainedByAll_29 : decode cX12_gainedByAll 29 = .ok (.iload_n 1, 1) := by decide +kernel
theorem dX12_gainedByAll_30 : decode cX12_gainedByAll 30 = .ok (.ireturn, 1) := by decide +kernel
theorem dX12_givers_0 : decode cX12_givers 0 = .ok (.aload_n 0, 1) := by decide +kernel
theorem dX12_givers_1 : decode cX12_givers 1 = .ok (.iconst 0, 1) := by decide +kernel
theorem dX12_givers_2 : decode cX12_givers 2 = .ok (.putfield 143, 3) := by decide +kernel
theorem dX12_givers_5 : decode cX12_givers 5 = .ok (.aload_n 0, 1) := by decide +kernel
theorem dX12_givers_6 : decode cX12_givers 6 = .ok (.invokevirtual 453, 3) := by decide +kernel
theorem dX12_givers_9 : decode cX12_givers 9 = .ok (.istore_n 1, 1) := by decide +kernel
theorem dX12_givers_10 : decode cX12_givers 10 = .ok (.aload_n 0, 1) := by decide +kernel
theorem dX12_givers_11 : decode cX12_givers 11 = .ok (.invokevirtual 456, 3) := by decide +kernel
theorem dX12_givers_14 : decode cX12_givers 14 = .ok (.istore_n 2, 1) := by decide +kernel
theorem dX12_givers_15 : decode cX12_givers 15 = .ok (.iconst (-1), 1) := by decide +kernel
theorem dX12_givers_16 : decode cX12_givers 16 = .ok (.istore_n 3, 1) := by decide +kernel
theorem dX12_givers_17 : decode cX12_givers 17 = .ok (.iconst 0, 1) := by decide +kernel
theorem dX12_givers_18 : decode cX12_givers 18 = .ok (.istore 4, 2) := by decide +kernel
theorem dX12_givers_20 : decode cX12_givers 20 = .ok (.iload 4, 2) := by decide +kernel
theorem dX12_givers_22 : decode cX12_givers 22 = .ok (.iconst 1, 1) := by decide +kernel
theorem dX12_givers_23 : decode cX12_givers 23 = .ok (.aload_n 0, 1) := by decide +kernel
theorem dX12_givers_24 : decode cX12_givers 24 = .ok (.getfield 13, 3) := by decide +kernel
theorem dX12_givers_27 : decode cX12_givers 27 = .ok (.iconst 1, 1) := by decide +kernel
theorem dX12_givers_28 : decode cX12_givers 28 = .ok (.iaload, 1) := by decide +kernel
theorem dX12_givers_29 : decode cX12_givers 29 = .ok (.ishl, 1) := by decide +kernel
theorem dX12_givers_30 : decode cX12_givers 30 = .ok (.if_icmp .ge 96, 3) := by decide +kernel
theorem dX12_givers_33 : decode cX12_givers 33 = .ok (.iload 4, 2) := by decide +kernel
theorem dX12_givers_35 : decode cX12_givers 35 = .ok (.iload_n 2, 1) := by decide +kernel
theorem dX12_givers_36 : decode cX12_givers 36 = .ok (.iand, 1) := by decide +kernel
theorem dX12_givers_37 : decode cX12_givers 37 = .ok (.ifCond .ne 83, 3) := by decide +kernel
theorem dX12_givers_40 : decode cX12_givers 40 = .ok (.iload_n 3, 1) := by decide +kernel
theorem dX12_givers_41 : decode cX12_givers 41 = .ok (.ifCond .lt 18, 3) := by decide +kernel
theorem dX12_givers_44 : decode cX12_givers 44 = .ok (.iload 4, 2) := by decide +kernel
theorem dX12_givers_46 : decode cX12_givers 46 = .ok (.invokestatic 446, 3) := by decide +kernel
theorem dX12_givers_49 : decode cX12_givers 49 = .ok (.iload_n 3, 1) := by decide +kernel
theorem dX12_givers_50 : decode cX12_givers 50 = .ok (.invokestatic 446, 3) := by decide +kernel
theorem dX12_givers_53 : decode cX12_givers 53 = .ok (.if_icmp .lt 6, 3) := by decide +kernel
theorem dX12_givers_56 : decode cX12_givers 56 = .ok (.goto 64, 3) := by decide +kernel
theorem dX12_givers_59 : decode cX12_givers 59 = .ok (.iconst 0, 1) := by decide +kernel
theorem dX12_givers_60 : decode cX12_givers 60 = .ok (.istore 5, 2) := by decide +kernel
theorem dX12_givers_62 : decode cX12_givers 62 = .ok (.iconst 0, 1) := by decide +kernel
theorem dX12_givers_63 : decode cX12_givers 63 = .ok (.istore 6, 2) := by decide +kernel
theorem dX12_givers_65 : decode cX12_givers 65 = .ok (.iload 6, 2) := by decide +kernel
theorem dX12_givers_67 : decode cX12_givers 67 = .ok (.aload_n 0, 1) := by decide +kernel
theorem dX12_givers_68 : decode cX12_givers 68 = .ok (.getfield 13, 3) := by decide +kernel
theorem dX12_givers_71 : decode cX12_givers 71 = .ok (.iconst 1, 1) := by decide +kernel
theorem dX12_givers_72 : decode cX12_givers 72 = .ok (.iaload, 1) := by decide +kernel
theorem dX12_givers_73 : decode cX12_givers 73 = .ok (.if_icmp .ge 35, 3) := by decide +kernel
theorem dX12_givers_76 : decode cX12_givers 76 = .ok (.iload 5, 2) := by decide +kernel
theorem dX12_givers_78 : decode cX12_givers 78 = .ok (.iload 4, 2) := by decide +kernel
theorem dX12_givers_80 : decode cX12_givers 80 = .ok (.iload 6, 2) := by decide +kernel
theorem dX12_givers_82 : decode cX12_givers 82 = .ok (.ishr, 1) := by decide +kernel
theorem dX12_givers_83 : decode cX12_givers 83 = .ok (.iconst 1, 1) := by decide +kernel
theorem dX12_givers_84 : decode cX12_givers 84 = .ok (.iand, 1) := by decide +kernel
theorem dX12_givers_85 : decode cX12_givers 85 = .ok (.iconst 1, 1) := by decide +kernel
theorem dX12_givers_86 : decode cX12_givers 86 = .ok (.if_icmp .ne 12, 3) := by decide +kernel
theorem dX12_givers_89 : decode cX12_givers 89 = .ok (.aload_n 0, 1) := by decide +kernel
theorem dX12_givers_90 : decode cX12_givers 90 = .ok (.iload 6, 2) := by decide +kernel
theorem dX12_givers_92 : decode cX12_givers 92 = .ok (.invokevirtual 459, 3) := by decide +kernel
theorem dX12_givers_95 : decode cX12_givers 95 = .ok (.goto 4, 3) := by decide +kernel
theorem dX12_givers_98 : decode cX12_givers 98 = .ok (.iconst 0, 1) := by decide +kernel
theorem dX12_givers_99 : decode cX12_givers 99 = .ok (.ior, 1) := by decide +kernel
theorem dX12_givers_100 : decode cX12_givers 100 = .ok (.istore 5, 2) := by decide +kernel
theorem dX12_givers_102 : decode cX12_givers 102 = .ok (.iinc 6 1, 3) := by decide +kernel
theorem dX12_givers_105 : decode cX12_givers 105 = .ok (.goto (-40), 3) := by decide +kernel
theorem dX12_givers_108 : decode cX12_givers 108 = .ok (.iload_n 1, 1) := by decide +kernel
theorem dX12_givers_109 : decode cX12_givers 109 = .ok (.iload 5, 2) := by decide +kernel
theorem dX12_givers_111 : decode cX12_givers 111 = .ok (.iconst (-1), 1) := by decide +kernel
theorem dX12_givers_112 : decode cX12_givers 112 = .ok (.ixor, 1) := by decide +kernel
theorem dX12_givers_113 : decode cX12_givers 113 = .ok (.iand, 1) := by decide +kernel
theorem dX12_givers_114 : decode cX12_givers 114 = .ok (.ifCond .ne 6, 3) := by decide +kernel
theorem dX12_givers_117 : decode cX12_givers 117 = .ok (.iload 4, 2) := by decide +kernel
theorem dX12_givers_119 : decode cX12_givers 119 = .ok (.istore_n 3, 1) := by decide +kernel
theorem dX12_givers_120 : decode cX12_givers 120 = .ok (.iinc 4 1, 3) := by decide +kernel
theorem dX12_givers_123 : decode cX12_givers 123 = .ok (.goto (-103), 3) := by decide +kernel
theorem dX12_givers_126 : decode cX12_givers 126 = .ok (.iload_n 3, 1) := by decide +kernel
theorem dX12_givers_127 : decode cX12_givers 127 = .ok (.ireturn, 1) := by decide +kernel
theorem dX12_undo_0 : decode cX12_undo 0 = .ok (.aload_n 0, 1) := by decide +kernel
theorem dX12_undo_1 : decode cX12_undo 1 = .ok (.iconst 0, 1) := by decide +kernel
theorem dX12_undo_2 : decode cX12_undo 2 = .ok (.putfield 143, 3) := by decide +kernel
theorem dX12_undo_5 : decode cX12_undo 5 = .ok (.aload_n 0, 1) := by decide +kernel
theorem dX12_undo_6 : decode cX12_undo 6 = .ok (.getfield 339, 3) := by decide +kernel
theorem dX12_undo_9 : decode cX12_undo 9 = .ok (.ifCond .ne 5, 3) := by decide +kernel
theorem dX12_undo_12 : decode cX12_undo 12 = .ok (.iconst 0, 1) := by decide +kernel
theorem dX12_undo_13 : decode cX12_undo 13 = .ok (.ireturn, 1) := by decide +kernel
theorem dX12_undo_14 : decode cX12_undo 14 = .ok (.aload_n 0, 1) := by decide +kernel
theorem dX12_undo_15 : decode cX12_undo 15 = .ok (.dup, 1) := by decide +kernel
theorem dX12_undo_16 : decode cX12_undo 16 = .ok (.getfield 339, 3) := by decide +kernel
theorem dX12_undo_19 : decode cX12_undo 19 = .ok (.iconst 1, 1) := by decide +kernel
theorem dX12_undo_20 : decode cX12_undo 20 = .ok (.isub, 1) := by decide +kernel
theorem dX12_undo_21 : decode cX12_undo 21 = .ok (.putfield 339, 3) := by decide +kernel
theorem dX12_undo_24 : decode cX12_undo 24 = .ok (.aload_n 0, 1) := by decide +kernel
theorem dX12_undo_25 : decode cX12_undo 25 = .ok (.getfield 114, 3) := by decide +kernel
theorem dX12_undo_28 : decode cX12_undo 28 = .ok (.sipush 133, 3) := by decide +kernel
theorem dX12_undo_31 : decode cX12_undo 31 = .ok (.aload_n 0, 1) := by decide +kernel
theorem dX12_undo_32 : decode cX12_undo 32 = .ok (.getfield 339, 3) := by decide +kernel
theorem dX12_undo_35 : decode cX12_undo 35 = .ok (.imul, 1) := by decide +kernel
theorem dX12_undo_36 : decode cX12_undo 36 = .ok (.aload_n 0, 1) := by decide +kernel
theorem dX12_undo_37 : decode cX12_undo 37 = .ok (.getfield 102, 3) := by decide +kernel
theorem dX12_undo_40 : decode cX12_undo 40 = .ok (.iconst 0, 1) := by decide +kernel
theorem dX12_undo_41 : decode cX12_undo 41 = .ok (.invokestatic 393, 3) := by decide +kernel
theorem dX12_undo_44 : decode cX12_undo 44 = .ok (.iconst 1, 1) := by decide +kernel
theorem dX12_undo_45 : decode cX12_undo 45 = .ok (.ireturn, 1) := by decide +kernel
theorem dX12_holders_0 : decode cX12_holders 0 = .ok (.aload_n 0, 1) := by decide +kernel
theorem dX12_holders_1 : decode cX12_holders 1 = .ok (.iconst 0, 1) := by decide +kernel
theorem dX12_holders_2 : decode cX12_holders 2 = .ok (.putfield 143, 3) := by decide +kernel
theorem dX12_holders_5 : decode cX12_holders 5 = .ok (.iload_n 1, 1) := by decide +kernel
theorem dX12_holders_6 : decode cX12_holders 6 = .ok (.iconst 1, 1) := by decide +kernel
theorem dX12_holders_7 : decode cX12_holders 7 = .ok (.bipush 6, 2) := by decide +kernel
theorem dX12_holders_9 : decode cX12_holders 9 = .ok (.invokestatic 262, 3) := by decide +kernel
theorem dX12_holders_12 : decode cX12_holders 12 = .ok (.ifCond .ne 5, 3) := by decide +kernel
theorem dX12_holders_15 : decode cX12_holders 15 = .ok (.iconst (-1), 1) := by decide +kernel
theorem dX12_holders_16 : decode cX12_holders 16 = .ok (.ireturn, 1) := by decide +kernel
theorem dX12_holders_17 : decode cX12_holders 17 = .ok (.iconst 0, 1) := by decide +kernel
theorem dX12_holders_18 : decode cX12_holders 18 = .ok (.istore_n 2, 1) := by decide +kernel
theorem dX12_holders_19 : decode cX12_holders 19 = .ok (.iconst 0, 1) := by decide +kernel
theorem dX12_holders_20 : decode cX12_holders 20 = .ok (.istore_n 3, 1) := by decide +kernel
theorem dX12_holders_21 : decode cX12_holders 21 = .ok (.iload_n 3, 1) := by decide +kernel
theorem dX12_holders_22 : decode cX12_holders 22 = .ok (.aload_n 0, 1) := by decide +kernel
theorem dX12_holders_23 : decode cX12_holders 23 = .ok (.getfield 13, 3) := by decide +kernel
theorem dX12_holders_26 : decode cX12_holders 26 = .ok (.iconst 1, 1) := by decide +kernel
theorem dX12_holders_27 : decode cX12_holders 27 = .ok (.iaload, 1) := by decide +kernel
theorem dX12_holders_28 : decode cX12_holders 28 = .ok (.if_icmp .ge 25, 3) := by decide +kernel
theorem dX12_holders_31 : decode cX12_holders 31 = .ok (.iload_n 2, 1) := by decide +kernel
theorem dX12_holders_32 : decode cX12_holders 32 = .ok (.aload_n 0, 1) := by decide +kernel
theorem dX12_holders_33 : decode cX12_holders 33 = .ok (.iload_n 3, 1) := by decide +kernel
theorem dX12_holders_34 : decode cX12_holders 34 = .ok (.invokevirtual 459, 3) := by decide +kernel
theorem dX12_holders_37 : decode cX12_holders 37 = .ok (.iload_n 1, 1) := by decide +kernel
theorem dX12_holders_38 : decode cX12_holders 38 = .ok (.iconst 1, 1) := by decide +kernel
theorem dX12_holders_39 : decode cX12_holders 39 = .ok (.isub, 1) := by decide +kernel
theorem dX12_holders_40 : decode cX12_holders 40 = .ok (.ishr, 1) := by decide +kernel
theorem dX12_holders_41 : decode cX12_holders 41 = .ok (.iconst 1, 1) := by decide +kernel
theorem dX12_holders_42 : decode cX12_holders 42 = .ok (.iand, 1) := by decide +kernel
theorem dX12_holders_43 : decode cX12_holders 43 = .ok (.iload_n 3, 1) := by decide +kernel
theorem dX12_holders_44 : decode cX12_holders 44 = .ok (.ishl, 1) := by decide +kernel
theorem dX12_holders_45 : decode cX12_holders 45 = .ok (.ior, 1) := by decide +kernel
theorem dX12_holders_46 : decode cX12_holders 46 = .ok (.istore_n 2, 1) := by decide +kernel
theorem dX12_holders_47 : decode cX12_holders 47 = .ok (.iinc 3 1, 3) := by decide +kernel
theorem dX12_holders_50 : decode cX12_holders 50 = .ok (.goto (-29), 3) := by decide +kernel
theorem dX12_holders_53 : decode cX12_holders 53 = .ok (.iload_n 2, 1) := by decide +kernel
theorem dX12_holders_54 : decode cX12_holders 54 = .ok (.ireturn, 1) := by decide +kernel
theorem dX12_thrown_0 : decode cX12_thrown 0 = .ok (.aload_n 0, 1) := by decide +kernel
theorem dX12_thrown_1 : decode cX12_thrown 1 = .ok (.getfield 143, 3) := by decide +kernel
theorem dX12_thrown_4 : decode cX12_thrown 4 = .ok (.ireturn, 1) := by decide +kernel
theorem dX12_best_0 : decode cX12_best 0 = .ok (.aload_n 0, 1) := by decide +kernel
theorem dX12_best_1 : decode cX12_best 1 = .ok (.aload_n 0, 1) := by decide +kernel
theorem dX12_best_2 : decode cX12_best 2 = .ok (.iload_n 1, 1) := by decide +kernel
theorem dX12_best_3 : decode cX12_best 3 = .ok (.invokevirtual 387, 3) := by decide +kernel
theorem dX12_best_6 : decode cX12_best 6 = .ok (.ifCond .eq 27, 3) := by decide +kernel
theorem dX12_best_9 : decode cX12_best 9 = .ok (.iload_n 2, 1) := by decide +kernel
theorem dX12_best_10 : decode cX12_best 10 = .ok (.iconst 1, 1) := by decide +kernel
theorem dX12_best_11 : decode cX12_best 11 = .ok (.iconst 5, 1) := by decide +kernel
theorem dX12_best_12 : decode cX12_best 12 = .ok (.invokestatic 262, 3) := by decide +kernel
theorem dX12_best_15 : decode cX12_best 15 = .ok (.ifCond .eq 18, 3) := by decide +kernel
theorem dX12_best_18 : decode cX12_best 18 = .ok (.iload_n 3, 1) := by decide +kernel
theorem dX12_best_19 : decode cX12_best 19 = .ok (.iconst (-1), 1) := by decide +kernel
theorem dX12_best_20 : decode cX12_best 20 = .ok (.iload_n 2, 1) := by decide +kernel
theorem dX12_best_21 : decode cX12_best 21 = .ok (.iconst 1, 1) := by decide +kernel
theorem dX12_best_22 : decode cX12_best 22 = .ok (.isub, 1) := by decide +kernel
theorem dX12_best_23 : decode cX12_best 23 = .ok (.invokestatic 262, 3) := by decide +kernel
theorem dX12_best_26 : decode cX12_best 26 = .ok (.ifCond .eq 7, 3) := by decide +kernel
theorem dX12_best_29 : decode cX12_best 29 = .ok (.iconst 0, 1) := by decide +kernel
theorem dX12_best_30 : decode cX12_best 30 = .ok (.goto 4, 3) := by decide +kernel
theorem dX12_best_33 : decode cX12_best 33 = .ok (.iconst 1, 1) := by decide +kernel
theorem dX12_best_34 : decode cX12_best 34 = .ok (.putfield 143, 3) := by decide +kernel
theorem dX12_best_37 : decode cX12_best 37 = .ok (.aload_n 0, 1) := by decide +kernel
theorem dX12_best_38 : decode cX12_best 38 = .ok (.getfield 143, 3) := by decide +kernel
theorem dX12_best_41 : decode cX12_best 41 = .ok (.iconst 1, 1) := by decide +kernel
theorem dX12_best_42 : decode cX12_best 42 = .ok (.if_icmp .ne 5, 3) := by decide +kernel
theorem dX12_best_45 : decode cX12_best 45 = .ok (.iconst 0, 1) := by decide +kernel
theorem dX12_best_46 : decode cX12_best 46 = .ok (.ireturn, 1) := by decide +kernel
theorem dX12_best_47 : decode cX12_best 47 = .ok (.aload_n 0, 1) := by decide +kernel
theorem dX12_best_48 : decode cX12_best 48 = .ok (.aload_n 0, 1) := by decide +kernel
theorem dX12_best_49 : decode cX12_best 49 = .ok (.getfield 13, 3) := by decide +kernel
theorem dX12_best_52 : decode cX12_best 52 = .ok (.iconst 2, 1) := by decide +kernel
theorem dX12_best_53 : decode cX12_best 53 = .ok (.iaload, 1) := by decide +kernel
theorem dX12_best_54 : decode cX12_best 54 = .ok (.putfield 120, 3) := by decide +kernel
theorem dX12_best_57 : decode cX12_best 57 = .ok (.aload_n 0, 1) := by decide +kernel
theorem dX12_best_58 : decode cX12_best 58 = .ok (.iconst 0, 1) := by decide +kernel
theorem dX12_best_59 : decode cX12_best 59 = .ok (.putfield 433, 3) := by decide +kernel
theorem dX12_best_62 : decode cX12_best 62 = .ok (.aload_n 0, 1) := by decide +kernel
theorem dX12_best_63 : decode cX12_best 63 = .ok (.iconst 0, 1) := by decide +kernel
theorem dX12_best_64 : decode cX12_best 64 = .ok (.putfield 437, 3) := by decide +kernel
theorem dX12_best_67 : decode cX12_best 67 = .ok (.aload_n 0, 1) := by decide +kernel
theorem dX12_best_68 : decode cX12_best 68 = .ok (.iload_n 1, 1) := by decide +kernel
theorem dX12_best_69 : decode cX12_best 69 = .ok (.iconst 0, 1) := by decide +kernel
theorem dX12_best_70 : decode cX12_best 70 = .ok (.iload_n 2, 1) := by decide +kernel
theorem dX12_best_71 : decode cX12_best 71 = .ok (.invokevirtual 440, 3) := by decide +kernel
theorem dX12_best_74 : decode cX12_best 74 = .ok (.aload_n 0, 1) := by decide +kernel
theorem dX12_best_75 : decode cX12_best 75 = .ok (.getfield 433, 3) := by decide +kernel
theorem dX12_best_78 : decode cX12_best 78 = .ok (.ifCond .ne 10, 3) := by decide +kernel
theorem dX12_best_81 : decode cX12_best 81 = .ok (.aload_n 0, 1) := by decide +kernel
theorem dX12_best_82 : decode cX12_best 82 = .ok (.iconst 1, 1) := by decide +kernel
theorem dX12_best_83 : decode cX12_best 83 = .ok (.putfield 143, 3) := by decide +kernel
theorem dX12_best_86 : decode cX12_best 86 = .ok (.iconst 0, 1) := by decide +kernel
theorem dX12_best_87 : decode cX12_best 87 = .ok (.ireturn, 1) := by decide +kernel
theorem dX12_best_88 : decode cX12_best 88 = .ok (.iload_n 3, 1) := by decide +kernel
theorem dX12_best_89 : decode cX12_best 89 = .ok (.iconst (-1), 1) := by decide +kernel
theorem dX12_best_90 : decode cX12_best 90 = .ok (.if_icmp .ne 17, 3) := by decide +kernel
theorem dX12_best_93 : decode cX12_best 93 = .ok (.aload_n 0, 1) := by decide +kernel
theorem dX12_best_94 : decode cX12_best 94 = .ok (.getfield 437, 3) := by decide +kernel
theorem dX12_best_97 : decode cX12_best 97 = .ok (.aload_n 0, 1) := by decide +kernel
theorem dX12_best_98 : decode cX12_best 98 = .ok (.iload_n 1, 1) := by decide +kernel
theorem dX12_best_99 : decode cX12_best 99 = .ok (.iconst 2, 1) := by decide +kernel
theorem dX12_best_100 : decode cX12_best 100 = .ok (.invokevirtual 349, 3) := by decide +kernel
theorem dX12_best_103 : decode cX12_best 103 = .ok (.isub, 1) := by decide +kernel
theorem dX12_best_104 : decode cX12_best 104 = .ok (.goto 9, 3) := by decide +kernel
theorem dX12_best_107 : decode cX12_best 107 = .ok (.aload_n 0, 1) := by decide +kernel
theorem dX12_best_108 : decode cX12_best 108 = .ok (.getfield 127, 3) := by decide +kernel
theorem dX12_best_111 : decode cX12_best 111 = .ok (.iload_n 3, 1) := by decide +kernel
theorem dX12_best_112 : decode cX12_best 112 = .ok (.iaload, 1) := by decide +kernel
theorem dX12_best_113 : decode cX12_best 113 = .ok (.ireturn, 1) := by decide +kernel
theorem dX12_matches_0 : decode cX12_matches 0 = .ok (.iload_n 1, 1) := by decide +kernel
theorem dX12_matches_1 : decode cX12_matches 1 = .ok (.istore 4, 2) := by decide +kernel
theorem dX12_matches_3 : decode cX12_matches 3 = .ok (.iload 4, 2) := by decide +kernel
theorem dX12_matches_5 : decode cX12_matches 5 = .ok (.aload_n 0, 1) := by decide +kernel
theorem dX12_matches_6 : decode cX12_matches 6 = .ok (.getfield 13, 3) := by decide +kernel
theorem dX12_matches_9 : decode cX12_matches 9 = .ok (.iconst 1, 1) := by decide +kernel
theorem dX12_matches_10 : decode cX12_matches 10 = .ok (.iaload, 1) := by decide +kernel
theorem dX12_matches_11 : decode cX12_matches 11 = .ok (.if_icmp .ge 19, 3) := by decide +kernel
theorem dX12_matches_14 : decode cX12_matches 14 = .ok (.iload_n 2, 1) := by decide +kernel
theorem dX12_matches_15 : decode cX12_matches 15 = .ok (.iload 4, 2) := by decide +kernel
theorem dX12_matches_17 : decode cX12_matches 17 = .ok (.ishr, 1) := by decide +kernel
theorem dX12_matches_18 : decode cX12_matches 18 = .ok (.iconst 1, 1) := by decide +kernel
theorem dX12_matches_19 : decode cX12_matches 19 = .ok (.iand, 1) := by decide +kernel
theorem dX12_matches_20 : decode cX12_matches 20 = .ok (.iconst 1, 1) := by decide +kernel
theorem dX12_matches_21 : decode cX12_matches 21 = .ok (.if_icmp .ne 9, 3) := by decide +kernel
theorem dX12_matches_24 : decode cX12_matches 24 = .ok (.iinc 4 1, 3) := by decide +kernel
theorem dX12_matches_27 : decode cX12_matches 27 = .ok (.goto (-24), 3) := by decide +kernel
theorem dX12_matches_30 : decode cX12_matches 30 = .ok (.iload 4, 2) := by decide +kernel
theorem dX12_matches_32 : decode cX12_matches 32 = .ok (.aload_n 0, 1) := by decide +kernel
theorem dX12_matches_33 : decode cX12_matches 33 = .ok (.getfield 13, 3) := by decide +kernel
theorem dX12_matches_36 : decode cX12_matches 36 = .ok (.iconst 1, 1) := by decide +kernel
theorem dX12_matches_37 : decode cX12_matches 37 = .ok (.iaload, 1) := by decide +kernel
theorem dX12_matches_38 : decode cX12_matches 38 = .ok (.if_icmp .lt 47, 3) := by decide +kernel
theorem dX12_matches_41 : decode cX12_matches 41 = .ok (.iload_n 3, 1) := by decide +kernel
theorem dX12_matches_42 : decode cX12_matches 42 = .ok (.aload_n 0, 1) := by decide +kernel
theorem dX12_matches_43 : decode cX12_matches 43 = .ok (.getfield 465, 3) := by decide +kernel
theorem dX12_matches_46 : decode cX12_matches 46 = .ok (.if_icmp .gt 4, 3) := by decide +kernel
theorem dX12_matches_49 : decode cX12_matches 49 = .ok (.return_, 1) := by decide +kernel
theorem dX12_matches_50 : decode cX12_matches 50 = .ok (.aload_n 0, 1) := by decide +kernel
theorem dX12_matches_51 : decode cX12_matches 51 = .ok (.iload_n 3, 1) := by decide +kernel
theorem dX12_matches_52 : decode cX12_matches 52 = .ok (.putfield 465, 3) := by decide +kernel
theorem dX12_matches_55 : decode cX12_matches 55 = .ok (.iconst 0, 1) := by decide +kernel
theorem dX12_matches_56 : decode cX12_matches 56 = .ok (.istore 5, 2) := by decide +kernel
theorem dX12_matches_58 : decode cX12_matches 58 = .ok (.iload 5, 2) := by decide +kernel
theorem dX12_matches_60 : decode cX12_matches 60 = .ok (.iconst 5, 1) := by decide +kernel
theorem dX12_matches_61 : decode cX12_matches 61 = .ok (.if_icmp .ge 23, 3) := by decide +kernel
theorem dX12_matches_64 : decode cX12_matches 64 = .ok (.aload_n 0, 1) := by decide +kernel
theorem dX12_matches_65 : decode cX12_matches 65 = .ok (.getfield 136, 3) := by decide +kernel
theorem dX12_matches_68 : decode cX12_matches 68 = .ok (.iload 5, 2) := by decide +kernel
theorem dX12_matches_70 : decode cX12_matches 70 = .ok (.aload_n 0, 1) := by decide +kernel
theorem dX12_matches_71 : decode cX12_matches 71 = .ok (.getfield 133, 3) := by decide +kernel
theorem dX12_matches_74 : decode cX12_matches 74 = .ok (.iload 5, 2) := by decide +kernel
theorem dX12_matches_76 : decode cX12_matches 76 = .ok (.iaload, 1) := by decide +kernel
theorem dX12_matches_77 : decode cX12_matches 77 = .ok (.iastore, 1) := by decide +kernel
theorem dX12_matches_78 : decode cX12_matches 78 = .ok (.iinc 5 1, 3) := by decide +kernel
theorem dX12_matches_81 : decode cX12_matches 81 = .ok (.goto (-23), 3) := by decide +kernel
theorem dX12_matches_84 : decode cX12_matches 84 = .ok (.return_, 1) := by decide +kernel
theorem dX12_matches_85 : decode cX12_matches 85 = .ok (.iload 4, 2) := by decide +kernel
theorem dX12_matches_87 : decode cX12_matches 87 = .ok (.istore 5, 2) := by decide +kernel
theorem dX12_matches_89 : decode cX12_matches 89 = .ok (.iload 5, 2) := by decide +kernel
theorem dX12_matches_91 : decode cX12_matches 91 = .ok (.aload_n 0, 1) := by decide +kernel
theorem dX12_matches_92 : decode cX12_matches 92 = .ok (.getfield 13, 3) := by decide +kernel
theorem dX12_matches_95 : decode cX12_matches 95 = .ok (.iconst 1, 1) := by decide +kernel
theorem dX12_matches_96 : decode cX12_matches 96 = .ok (.iaload, 1) := by decide +kernel
theorem dX12_matches_97 : decode cX12_matches 97 = .ok (.if_icmp .ge 85, 3) := by decide +kernel
theorem dX12_matches_100 : decode cX12_matches 100 = .ok (.iload_n 2, 1) := by decide +kernel
theorem dX12_matches_101 : decode cX12_matches 101 = .ok (.iload 5, 2) := by decide +kernel
theorem dX12_matches_103 : decode cX12_matches 103 = .ok (.ishr, 1) := by decide +kernel
theorem dX12_matches_104 : decode cX12_matches 104 = .ok (.iconst 1, 1) := by decide +kernel
theorem dX12_matches_105 : decode cX12_matches 105 = .ok (.iand, 1) := by decide +kernel
theorem dX12_matches_106 : decode cX12_matches 106 = .ok (.iconst 1, 1) := by decide +kernel
theorem dX12_matches_107 : decode cX12_matches 107 = .ok (.if_icmp .ne 6, 3) := by decide +kernel
theorem dX12_matches_110 : decode cX12_matches 110 = .ok (.goto 66, 3) := by decide +kernel
theorem dX12_matches_113 : decode cX12_matches 113 = .ok (.aload_n 0, 1) := by decide +kernel
theorem dX12_matches_114 : decode cX12_matches 114 = .ok (.getfield 133, 3) := by decide +kernel
theorem dX12_matches_117 : decode cX12_matches 117 = .ok (.iload 4, 2) := by decide +kernel
theorem dX12_matches_119 : decode cX12_matches 119 = .ok (.iload 5, 2) := by decide +kernel
theorem dX12_matches_121 : decode cX12_matches 121 = .ok (.iastore, 1) := by decide +kernel
theorem dX12_matches_122 : decode cX12_matches 122 = .ok (.aload_n 0, 1) := by decide +kernel
theorem dX12_matches_123 : decode cX12_matches 123 = .ok (.getfield 133, 3) := by decide +kernel
theorem dX12_matches_126 : decode cX12_matches 126 = .ok (.iload 5, 2) := by decide +kernel
theorem dX12_matches_128 : decode cX12_matches 128 = .ok (.iload 4, 2) := by decide +kernel
theorem dX12_matches_130 : decode cX12_matches 130 = .ok (.iastore, 1) := by decide +kernel
theorem dX12_matches_131 : decode cX12_matches 131 = .ok (.aload_n 0, 1) := by decide +kernel
theorem dX12_matches_132 : decode cX12_matches 132 = .ok (.iload 4, 2) := by decide +kernel
theorem dX12_matches_134 : decode cX12_matches 134 = .ok (.iconst 1, 1) := by decide +kernel
theorem dX12_matches_135 : decode cX12_matches 135 = .ok (.iadd, 1) := by decide +kernel
theorem dX12_matches_136 : decode cX12_matches 136 = .ok (.iload_n 2, 1) := by decide +kernel
theorem dX12_matches_137 : decode cX12_matches 137 = .ok (.iconst 1, 1) := by decide +kernel
theorem dX12_matches_138 : decode cX12_matches 138 = .ok (.iload 4, 2) := by decide +kernel
theorem dX12_matches_140 : decode cX12_matches 140 = .ok (.ishl, 1) := by decide +kernel
theorem dX12_matches_141 : decode cX12_matches 141 = .ok (.ior, 1) := by decide +kernel
theorem dX12_matches_142 : decode cX12_matches 142 = .ok (.iconst 1, 1) := by decide +kernel
theorem dX12_matches_143 : decode cX12_matches 143 = .ok (.iload 5, 2) := by decide +kernel
theorem dX12_matches_145 : decode cX12_matches 145 = .ok (.ishl, 1) := by decide +kernel
theorem dX12_matches_146 : decode cX12_matches 146 = .ok (.ior, 1) := by decide +kernel
theorem dX12_matches_147 : decode cX12_matches 147 = .ok (.iload 5, 2) := by decide +kernel
theorem dX12_matches_149 : decode cX12_matches 149 = .ok (.iload 4, 2) := by decide +kernel
theorem dX12_matches_151 : decode cX12_matches 151 = .ok (.if_icmp .ne 7, 3) := by decide +kernel
theorem dX12_matches_154 : decode cX12_matches 154 = .ok (.iload_n 3, 1) := by decide +kernel
theorem dX12_matches_155 : decode cX12_matches 155 = .ok (.goto 18, 3) := by decide +kernel
theorem dX12_matches_158 : decode cX12_matches 158 = .ok (.iload_n 3, 1) := by decide +kernel
theorem dX12_matches_159 : decode cX12_matches 159 = .ok (.aload_n 0, 1) := by decide +kernel
theorem dX12_matches_160 : decode cX12_matches 160 = .ok (.iload 4, 2) := by decide +kernel
theorem dX12_matches_162 : decode cX12_matches 162 = .ok (.invokevirtual 462, 3) := by decide +kernel
theorem dX12_matches_165 : decode cX12_matches 165 = .ok (.aload_n 0, 1) := by decide +kernel
theorem dX12_matches_166 : decode cX12_matches 166 = .ok (.iload 5, 2) := by decide +kernel
theorem dX12_matches_168 : decode cX12_matches 168 = .ok (.invokevirtual 462, 3) := by decide +kernel
theorem dX12_matches_171 : decode cX12_matches 171 = .ok (.imul, 1) := by decide +kernel
theorem dX12_matches_172 : decode cX12_matches 172 = .ok (.iadd, 1) := by decide +kernel
theorem dX12_matches_173 : decode cX12_matches 173 = .ok (.invokevirtual 468, 3) := by decide +kernel
theorem dX12_matches_176 : decode cX12_matches 176 = .ok (.iinc 5 1, 3) := by decide +kernel
theorem dX12_matches_179 : decode cX12_matches 179 = .ok (.goto (-90), 3) := by decide +kernel
theorem dX12_matches_182 : decode cX12_matches 182 = .ok (.return_, 1) := by decide +kernel
theorem dX12_match_0 : decode cX12_match 0 = .ok (.aload_n 0, 1) := by decide +kernel
theorem dX12_match_1 : decode cX12_match 1 = .ok (.iconst 0, 1) := by decide +kernel
theorem dX12_match_2 : decode cX12_match 2 = .ok (.putfield 143, 3) := by decide +kernel
theorem dX12_match_5 : decode cX12_match 5 = .ok (.iload_n 1, 1) := by decide +kernel
theorem dX12_match_6 : decode cX12_match 6 = .ok (.iconst (-1), 1) := by decide +kernel
theorem dX12_match_7 : decode cX12_match 7 = .ok (.if_icmp .eq 14, 3) := by decide +kernel
theorem dX12_match_10 : decode cX12_match 10 = .ok (.aload_n 0, 1) := by decide +kernel
theorem dX12_match_11 : decode cX12_match 11 = .ok (.iload_n 1, 1) := by decide +kernel
theorem dX12_match_12 : decode cX12_match 12 = .ok (.invokevirtual 387, 3) := by decide +kernel
theorem dX12_match_15 : decode cX12_match 15 = .ok (.ifCond .ne 6, 3) := by decide +kernel
theorem dX12_match_18 : decode cX12_match 18 = .ok (.bipush (-2), 2) := by decide +kernel
theorem dX12_match_20 : decode cX12_match 20 = .ok (.ireturn, 1) := by decide +kernel
theorem dX12_match_21 : decode cX12_match 21 = .ok (.aload_n 0, 1) := by decide +kernel
theorem dX12_match_22 : decode cX12_match 22 = .ok (.iconst (-1), 1) := by decide +kernel
theorem dX12_match_23 : decode cX12_match 23 = .ok (.putfield 465, 3) := by decide +kernel
theorem dX12_match_26 : decode cX12_match 26 = .ok (.aload_n 0, 1) := by decide +kernel
theorem dX12_match_27 : decode cX12_match 27 = .ok (.iconst 0, 1) := by decide +kernel
theorem dX12_match_28 : decode cX12_match 28 = .ok (.iconst 0, 1) := by decide +kernel
theorem dX12_match_29 : decode cX12_match 29 = .ok (.iconst 0, 1) := by decide +kernel
theorem dX12_match_30 : decode cX12_match 30 = .ok (.invokevirtual 468, 3) := by decide +kernel
theorem dX12_match_33 : decode cX12_match 33 = .ok (.iload_n 1, 1) := by decide +kernel
theorem dX12_match_34 : decode cX12_match 34 = .ok (.iconst (-1), 1) := by decide +kernel
theorem dX12_match_35 : decode cX12_match 35 = .ok (.if_icmp .ne 10, 3) := by decide +kernel
theorem dX12_match_38 : decode cX12_match 38 = .ok (.aload_n 0, 1) := by decide +kernel
theorem dX12_match_39 : decode cX12_match 39 = .ok (.getfield 465, 3) := by decide +kernel
theorem dX12_match_42 : decode cX12_match 42 = .ok (.goto 9, 3) := by decide +kernel
theorem dX12_match_45 : decode cX12_match 45 = .ok (.aload_n 0, 1) := by decide +kernel
theorem dX12_match_46 : decode cX12_match 46 = .ok (.getfield 136, 3) := by decide +kernel
theorem dX12_match_49 : decode cX12_match 49 = .ok (.iload_n 1, 1) := by decide +kernel
theorem dX12_match_50 : decode cX12_match 50 = .ok (.iaload, 1) := by decide +kernel
theorem dX12_match_51 : decode cX12_match 51 = .ok (.ireturn, 1) := by decide +kernel
theorem dX12_inBarn_0 : decode cX12_inBarn 0 = .ok (.iconst 0, 1) := by decide +kernel
theorem dX12_inBarn_1 : decode cX12_inBarn 1 = .ok (.istore_n 1, 1) := by decide +kernel
theorem dX12_inBarn_2 : decode cX12_inBarn 2 = .ok (.iconst 0, 1) := by decide +kernel
theorem dX12_inBarn_3 : decode cX12_inBarn 3 = .ok (.istore_n 2, 1) := by decide +kernel
theorem dX12_inBarn_4 : decode cX12_inBarn 4 = .ok (.iload_n 2, 1) := by decide +kernel
theorem dX12_inBarn_5 : decode cX12_inBarn 5 = .ok (.bipush 8, 2) := by decide +kernel
theorem dX12_inBarn_7 : decode cX12_inBarn 7 = .ok (.if_icmp .ge 21, 3) := by decide +kernel
theorem dX12_inBarn_10 : decode cX12_inBarn 10 = .ok (.iload_n 1, 1) := by decide +kernel
theorem dX12_inBarn_11 : decode cX12_inBarn 11 = .ok (.aload_n 0, 1) := by decide +kernel
theorem dX12_inBarn_12 : decode cX12_inBarn 12 = .ok (.getfield 102, 3) := by decide +kernel
theorem dX12_inBarn_15 : decode cX12_inBarn 15 = .ok (.bipush 125, 2) := by decide +kernel
theorem dX12_inBarn_17 : decode cX12_inBarn 17 = .ok (.iload_n 2, 1) := by decide +kernel
theorem dX12_inBarn_18 : decode cX12_inBarn 18 = .ok (.iadd, 1) := by decide +kernel
theorem dX12_inBarn_19 : decode cX12_inBarn 19 = .ok (.iaload, 1) := by decide +kernel
theorem dX12_inBarn_20 : decode cX12_inBarn 20 = .ok (.iadd, 1) := by decide +kernel
theorem dX12_inBarn_21 : decode cX12_inBarn 21 = .ok (.istore_n 1, 1) := by decide +kernel
theorem dX12_inBarn_22 : decode cX12_inBarn 22 = .ok (.iinc 2 1, 3) := by decide +kernel
theorem dX12_inBarn_25 : decode cX12_inBarn 25 = .ok (.goto (-21), 3) := by decide +kernel
theorem dX12_inBarn_28 : decode cX12_inBarn 28 = .ok (.iload_n 1, 1) := by decide +kernel
theorem dX12_inBarn_29 : decode cX12_inBarn 29 = .ok (.ireturn, 1) := by decide +kernel
theorem dX12_worthInBarn_0 : decode cX12_worthInBarn 0 = .ok (.iconst 0, 1) := by decide +kernel
theorem dX12_worthInBarn_1 : decode cX12_worthInBarn 1 = .ok (.istore_n 1, 1) := by decide +kernel
theorem dX12_worthInBarn_2 : decode cX12_worthInBarn 2 = .ok (.iconst 0, 1) := by decide +kernel
theorem dX12_worthInBarn_3 : decode cX12_worthInBarn 3 = .ok (.istore_n 2, 1) := by decide +kernel
theorem dX12_worthInBarn_4 : decode cX12_worthInBarn 4 = .ok (.iload_n 2, 1) := by decide +kernel
theorem dX12_worthInBarn_5 : decode cX12_worthInBarn 5 = .ok (.aload_n 0, 1) := by decide +kernel
theorem dX12_worthInBarn_6 : decode cX12_worthInBarn 6 = .ok (.getfield 13, 3) := by decide +kernel
theorem dX12_worthInBarn_9 : decode cX12_worthInBarn 9 = .ok (.iconst 0, 1) := by decide +kernel
theorem dX12_worthInBarn_10 : decode cX12_worthInBarn 10 = .ok (.iaload, 1) := by decide +kernel
theorem dX12_worthInBarn_11 : decode cX12_worthInBarn 11 = .ok (.if_icmp .ge 28, 3) := by decide +kernel
theorem dX12_worthInBarn_14 : decode cX12_worthInBarn 14 = .ok (.iload_n 1, 1) := by decide +kernel
theorem dX12_worthInBarn_15 : decode cX12_worthInBarn 15 = .ok (.aload_n 0, 1) := by decide +kernel
theorem dX12_worthInBarn_16 : decode cX12_worthInBarn 16 = .ok (.getfield 102, 3) := by decide +kernel
theorem dX12_worthInBarn_19 : decode cX12_worthInBarn 19 = .ok (.bipush 125, 2) := by decide +kernel
theorem dX12_worthInBarn_21 : decode cX12_worthInBarn 21 = .ok (.iload_n 2, 1) := by decide +kernel
theorem dX12_worthInBarn_22 : decode cX12_worthInBarn 22 = .ok (.iadd, 1) := by decide +kernel
theorem dX12_worthInBarn_23 : decode cX12_worthInBarn 23 = .ok (.iaload, 1) := by decide +kernel
theorem dX12_worthInBarn_24 : decode cX12_worthInBarn 24 = .ok (.aload_n 0, 1) := by decide +kernel
theorem dX12_worthInBarn_25 : decode cX12_worthInBarn 25 = .ok (.getfield 23, 3) := by decide +kernel
theorem dX12_worthInBarn_28 : decode cX12_worthInBarn 28 = .ok (.iload_n 2, 1) := by decide +kernel
theorem dX12_worthInBarn_29 : decode cX12_worthInBarn 29 = .ok (.iaload, 1) := by decide +kernel
theorem dX12_worthInBarn_30 : decode cX12_worthInBarn 30 = .ok (.imul, 1) := by decide +kernel
theorem dX12_worthInBarn_31 : decode cX12_worthInBarn 31 = .ok (.iadd, 1) := by decide +kernel
theorem dX12_worthInBarn_32 : decode cX12_worthInBarn 32 = .ok (.istore_n 1, 1) := by decide +kernel
theorem dX12_worthInBarn_33 : decode cX12_worthInBarn 33 = .ok (.iinc 2 1, 3) := by decide +kernel
theorem dX12_worthInBarn_36 : decode cX12_worthInBarn 36 = .ok (.goto (-32), 3) := by decide +kernel
theorem dX12_worthInBarn_39 : decode cX12_worthInBarn 39 = .ok (.iload_n 1, 1) := by decide +kernel
theorem dX12_worthInBarn_40 : decode cX12_worthInBarn 40 = .ok (.ireturn, 1) := by decide +kernel
theorem dX12_count_0 : decode cX12_count 0 = .ok (.aload_n 0, 1) := by decide +kernel
theorem dX12_count_1 : decode cX12_count 1 = .ok (.iconst 0, 1) := by decide +kernel
theorem dX12_count_2 : decode cX12_count 2 = .ok (.putfield 143, 3) := by decide +kernel
theorem dX12_count_5 : decode cX12_count 5 = .ok (.iload_n 1, 1) := by decide +kernel
theorem dX12_count_6 : decode cX12_count 6 = .ok (.iconst 0, 1) := by decide +kernel
theorem dX12_count_7 : decode cX12_count 7 = .ok (.bipush 11, 2) := by decide +kernel
theorem dX12_count_9 : decode cX12_count 9 = .ok (.invokestatic 262, 3) := by decide +kernel
theorem dX12_count_12 : decode cX12_count 12 = .ok (.ifCond .ne 5, 3) := by decide +kernel
theorem dX12_count_15 : decode cX12_count 15 = .ok (.iconst (-1), 1) := by decide +kernel
theorem dX12_count_16 : decode cX12_count 16 = .ok (.ireturn, 1) := by decide +kernel
theorem dX12_count_17 : decode cX12_count 17 = .ok (.iload_n 1, 1) := by decide +kernel
theorem dX12_count_18 : decode cX12_count 18 = .ok (.iconst 5, 1) := by decide +kernel
theorem dX12_count_19 : decode cX12_count 19 = .ok (.if_icmp .ge 10, 3) := by decide +kernel
theorem dX12_count_22 : decode cX12_count 22 = .ok (.aload_n 0, 1) := by decide +kernel
theorem dX12_count_23 : decode cX12_count 23 = .ok (.getfield 13, 3) := by decide +kernel
theorem dX12_count_26 : decode cX12_count 26 = .ok (.iload_n 1, 1) := by decide +kernel
theorem dX12_count_27 : decode cX12_count 27 = .ok (.iaload, 1) := by decide +kernel
theorem dX12_count_28 : decode cX12_count 28 = .ok (.ireturn, 1) := by decide +kernel
theorem dX12_count_29 : decode cX12_count 29 = .ok (.iload_n 1, 1) := by decide +kernel
theorem dX12_count_30 : decode cX12_count 30 = .ok (.bipush 8, 2) := by decide +kernel
theorem dX12_count_32 : decode cX12_count 32 = .ok (.if_icmp .ge 33, 3) := by decide +kernel
theorem dX12_count_35 : decode cX12_count 35 = .ok (.iload_n 1, 1) := by decide +kernel
theorem dX12_count_36 : decode cX12_count 36 = .ok (.iconst 5, 1) := by decide +kernel
theorem dX12_count_37 : decode cX12_count 37 = .ok (.if_icmp .ne 10, 3) := by decide +kernel
theorem dX12_count_40 : decode cX12_count 40 = .ok (.aload_n 0, 1) := by decide +kernel
theorem dX12_count_41 : decode cX12_count 41 = .ok (.invokevirtual 456, 3) := by decide +kernel
theorem dX12_count_44 : decode cX12_count 44 = .ok (.goto 20, 3) := by decide +kernel
theorem dX12_count_47 : decode cX12_count 47 = .ok (.iload_n 1, 1) := by decide +kernel
theorem dX12_count_48 : decode cX12_count 48 = .ok (.bipush 6, 2) := by decide +kernel
theorem dX12_count_50 : decode cX12_count 50 = .ok (.if_icmp .ne 10, 3) := by decide +kernel
theorem dX12_count_53 : decode cX12_count 53 = .ok (.aload_n 0, 1) := by decide +kernel
theorem dX12_count_54 : decode cX12_count 54 = .ok (.invokevirtual 362, 3) := by decide +kernel
theorem dX12_count_57 : decode cX12_count 57 = .ok (.goto 7, 3) := by decide +kernel
theorem dX12_count_60 : decode cX12_count 60 = .ok (.aload_n 0, 1) := by decide +kernel
theorem dX12_count_61 : decode cX12_count 61 = .ok (.invokevirtual 498, 3) := by decide +kernel
theorem dX12_count_64 : decode cX12_count 64 = .ok (.ireturn, 1) := by decide +kernel
theorem dX12_count_65 : decode cX12_count 65 = .ok (.iload_n 1, 1) := by decide +kernel
theorem dX12_count_66 : decode cX12_count 66 = .ok (.bipush 10, 2) := by decide +kernel
theorem dX12_count_68 : decode cX12_count 68 = .ok (.if_icmp .ge 25, 3) := by decide +kernel
theorem dX12_count_71 : decode cX12_count 71 = .ok (.iload_n 1, 1) := by decide +kernel
theorem dX12_count_72 : decode cX12_count 72 = .ok (.bipush 8, 2) := by decide +kernel
theorem dX12_count_74 : decode cX12_count 74 = .ok (.if_icmp .ne 12, 3) := by decide +kernel
theorem dX12_count_77 : decode cX12_count 77 = .ok (.aload_n 0, 1) := by decide +kernel
theorem dX12_count_78 : decode cX12_count 78 = .ok (.getfield 81, 3) := by decide +kernel
theorem dX12_count_81 : decode cX12_count 81 = .ok (.iconst 0, 1) := by decide +kernel
theorem dX12_count_82 : decode cX12_count 82 = .ok (.iaload, 1) := by decide +kernel
theorem dX12_count_83 : decode cX12_count 83 = .ok (.goto 9, 3) := by decide +kernel
theorem dX12_count_86 : decode cX12_count 86 = .ok (.aload_n 0, 1) := by decide +kernel
theorem dX12_count_87 : decode cX12_count 87 = .ok (.getfield 93, 3) := by decide +kernel
theorem dX12_count_90 : decode cX12_count 90 = .ok (.iconst 0, 1) := by decide +kernel
theorem dX12_count_91 : decode cX12_count 91 = .ok (.iaload, 1) := by decide +kernel
theorem dX12_count_92 : decode cX12_count 92 = .ok (.ireturn, 1) := by decide +kernel
theorem dX12_count_93 : decode cX12_count 93 = .ok (.iload_n 1, 1) := by decide +kernel
theorem dX12_count_94 : decode cX12_count 94 = .ok (.bipush 10, 2) := by decide +kernel
theorem dX12_count_96 : decode cX12_count 96 = .ok (.if_icmp .ne 10, 3) := by decide +kernel
theorem dX12_count_99 : decode cX12_count 99 = .ok (.aload_n 0, 1) := by decide +kernel
theorem dX12_count_100 : decode cX12_count 100 = .ok (.getfield 339, 3) := by decide +kernel
theorem dX12_count_103 : decode cX12_count 103 = .ok (.goto 7, 3) := by decide +kernel
theorem dX12_count_106 : decode cX12_count 106 = .ok (.aload_n 0, 1) := by decide +kernel
theorem dX12_count_107 : decode cX12_count 107 = .ok (.getfield 148, 3) := by decide +kernel
theorem dX12_count_110 : decode cX12_count 110 = .ok (.ireturn, 1) := by decide +kernel
set_option maxHeartbeats 4000000 in
set_option maxRecDepth 100000 in
theorem c_X12_isThought (γ : kΓ) (l : Launch) (z : Nat) (z2 : Nat) (z10 : Nat) (z11 : Nat) (z12 : Nat) (z13 : Nat) (z14 : Nat) (z15 : Nat) (z16 : Nat) (z17 : Nat) (z18 : Nat) (z19 : Nat) (z22 : Nat) (z23 : Nat) (z24 : Nat) (z25 : Nat) (z26 : Nat) (z27 : Nat) (z28 : Nat) (z29 : Nat) (z30 : Nat) (z31 : Nat) (z32 : Nat) (z33 : Nat) (z36 : Nat) (z37 : Nat) (z38 : Nat) (z39 : Nat) (z40 : Nat) (z41 : Nat) (z42 : Nat) (z43 : Nat) (z44 : Nat) (z45 : Nat) (z46 : Nat) (z47 : Nat) (z48 : Nat) (z55 : Nat) (z56 : Nat) (z59 : Nat) (z60 : Nat) (z61 : Nat) (fa : Nat → Int32) (t : Int32) (ha0 : fa 0 = 0) (ha1 : fa 1 = 0) (ha2 : fa 2 = 10) (ha3 : fa 3 = 10) (ha4 : fa 4 = 3) : kM γ l yX12_isThought cX12_isThought 2 ((some .boolean)) ({ frames := 0, cells := 0, slots := 0, locals := 0 } : Room) [.ref z, .int t] [(z, .inr (11, [.int 0, .int 0, .ref z2, .int 0, .int 0, .int 0, .int 0, .long 0, .int 0, .int 0, .ref z10, .ref z11, .ref z12, .ref z13, .ref z14, .ref z15, .ref z16, .ref z17, .ref z18, .ref z19, .int 0, .int 0, .ref z22, .ref z23, .ref z24, .ref z25, .ref z26, .ref z27, .ref z28, .ref z29, .ref z30, .ref z31, .ref z32, .ref z33, .int 0, .long 0, .ref z36, .ref z37, .ref z38, .ref z39, .ref z40, .ref z41, .ref z42, .ref z43, .ref z44, .ref z45, .ref z46, .ref z47, .ref z48, .int 0, .int 10, .int 0, .int 0, .int 0, .int 0, .ref z55, .ref z56, .int 0, .int 0, .ref z59, .ref z60, .ref z61, .int 0, .long 0])), (z10, .inl (γ.2.1 0, 10, .inl fa))] (fun r w1 => r = some (.int 0) ∧ w1 = [(z, .inr (11, [.int 0, .int 0, .ref z2, .int 0, .int 0, .int 0, .int 0, .long 0, .int 0, .int 0, .ref z10, .ref z11, .ref z12, .ref z13, .ref z14, .ref z15, .ref z16, .ref z17, .ref z18, .ref z19, .int 0, .int 0, .ref z22, .ref z23, .ref z24, .ref z25, .ref z26, .ref z27, .ref z28, .ref z29, .ref z30, .ref z31, .ref z32, .ref z33, .int 0, .long 0, .ref z36, .ref z37, .ref z38, .ref z39, .ref z40, .ref z41, .ref z42, .ref z43, .ref z44, .ref z45, .ref z46, .ref z47, .ref z48, .int 0, .int 10, .int 0, .int 0, .int 0, .int 0, .ref z55, .ref z56, .int 0, .int 0, .ref z59, .ref z60, .ref z61, .int 0, .long 0])), (z10, .inl (γ.2.1 0, 10, .inl fa))]) := by
  refine k_ofW (by decide) (Nat.le_of_ble_eq_true rfl) ?_
  intro p e s m below meth c A ls hC hr hlocks hname hw hl
  have hx := hC.1
  have hb := hC.2.1
  have hl : lv_has ls 2 [(0, .ref z), (1, .int t)] := hl
  refine lv_iload_n hx hb dX12_isThought_0 rfl (lv_at hl 1 rfl) ?_
  refine lv_if_lt (tgt := 18) hx hb dX12_isThought_1 (by decide) (fun c1 => ?_) (fun c1 => ?_)
  · refine lv_iconst (v := 0) hx hb dX12_isThought_18 (by decide) ?_
    exact k_zret hC hr hlocks rfl hw [0, 1] rfl rfl ⟨rfl, rfl⟩ (by decide) (by decide) dX12_isThought_19
  · refine lv_iload_n hx hb dX12_isThought_4 rfl (lv_at hl 1 rfl) ?_
    refine lv_aload_n hx hb dX12_isThought_5 rfl (lv_at hl 0 rfl) ?_
    refine fg_RX12_13 hC hw 0 rfl rfl dX12_isThought_6 ?_
    refine lv_iconst (v := 0) hx hb dX12_isThought_9 (by decide) ?_
    refine k_iald hC hw 1 rfl (k_in0 (by decide)) dX12_isThought_10 ?_
    refine lv_topi (fun x_1181 ex_1181 => ?_)
    obtain rfl : x_1181 = 0 := (show x_1181 = fa 0 from ex_1181).trans ha0
    refine lv_icmp_ge (tgt := 18) hx hb dX12_isThought_11 (by decide) (fun _ => ?_) (fun h => absurd (Int32.not_lt.mp c1) h)
    refine lv_iconst (v := 0) hx hb dX12_isThought_18 (by decide) ?_
    exact k_zret hC hr hlocks rfl hw [0, 1] rfl rfl ⟨rfl, rfl⟩ (by decide) (by decide) dX12_isThought_19

set_option maxHeartbeats 4000000 in
set_option maxRecDepth 100000 in
theorem c_X12_isTenant (γ : kΓ) (l : Launch) (z : Nat) (z2 : Nat) (z10 : Nat) (z11 : Nat) (z12 : Nat) (z13 : Nat) (z14 : Nat) (z15 : Nat) (z16 : Nat) (z17 : Nat) (z18 : Nat) (z19 : Nat) (z22 : Nat) (z23 : Nat) (z24 : Nat) (z25 : Nat) (z26 : Nat) (z27 : Nat) (z28 : Nat) (z29 : Nat) (z30 : Nat) (z31 : Nat) (z32 : Nat) (z33 : Nat) (z36 : Nat) (z37 : Nat) (z38 : Nat) (z39 : Nat) (z40 : Nat) (z41 : Nat) (z42 : Nat) (z43 : Nat) (z44 : Nat) (z45 : Nat) (z46 : Nat) (z47 : Nat) (z48 : Nat) (z55 : Nat) (z56 : Nat) (z59 : Nat) (z60 : Nat) (z61 : Nat) (fa : Nat → Int32) (t : Int32) (ha0 : fa 0 = 0) (ha1 : fa 1 = 0) (ha2 : fa 2 = 10) (ha3 : fa 3 = 10) (ha4 : fa 4 = 3) : kM γ l yX12_isTenant cX12_isTenant 2 ((some .boolean)) ({ frames := 0, cells := 0, slots := 0, locals := 0 } : Room) [.ref z, .int t] [(z, .inr (11, [.int 0, .int 0, .ref z2, .int 0, .int 0, .int 0, .int 0, .long 0, .int 0, .int 0, .ref z10, .ref z11, .ref z12, .ref z13, .ref z14, .ref z15, .ref z16, .ref z17, .ref z18, .ref z19, .int 0, .int 0, .ref z22, .ref z23, .ref z24, .ref z25, .ref z26, .ref z27, .ref z28, .ref z29, .ref z30, .ref z31, .ref z32, .ref z33, .int 0, .long 0, .ref z36, .ref z37, .ref z38, .ref z39, .ref z40, .ref z41, .ref z42, .ref z43, .ref z44, .ref z45, .ref z46, .ref z47, .ref z48, .int 0, .int 10, .int 0, .int 0, .int 0, .int 0, .ref z55, .ref z56, .int 0, .int 0, .ref z59, .ref z60, .ref z61, .int 0, .long 0])), (z10, .inl (γ.2.1 0, 10, .inl fa))] (fun r w1 => r = some (.int 0) ∧ w1 = [(z, .inr (11, [.int 0, .int 0, .ref z2, .int 0, .int 0, .int 0, .int 0, .long 0, .int 0, .int 0, .ref z10, .ref z11, .ref z12, .ref z13, .ref z14, .ref z15, .ref z16, .ref z17, .ref z18, .ref z19, .int 0, .int 0, .ref z22, .ref z23, .ref z24, .ref z25, .ref z26, .ref z27, .ref z28, .ref z29, .ref z30, .ref z31, .ref z32, .ref z33, .int 0, .long 0, .ref z36, .ref z37, .ref z38, .ref z39, .ref z40, .ref z41, .ref z42, .ref z43, .ref z44, .ref z45, .ref z46, .ref z47, .ref z48, .int 0, .int 10, .int 0, .int 0, .int 0, .int 0, .ref z55, .ref z56, .int 0, .int 0, .ref z59, .ref z60, .ref z61, .int 0, .long 0])), (z10, .inl (γ.2.1 0, 10, .inl fa))]) := by
  refine k_ofW (by decide) (Nat.le_of_ble_eq_true rfl) ?_
  intro p e s m below meth c A ls hC hr hlocks hname hw hl
  have hx := hC.1
  have hb := hC.2.1
  have hl : lv_has ls 2 [(0, .ref z), (1, .int t)] := hl
  refine lv_iload_n hx hb dX12_isTenant_0 rfl (lv_at hl 1 rfl) ?_
  refine lv_if_lt (tgt := 18) hx hb dX12_isTenant_1 (by decide) (fun c1 => ?_) (fun c1 => ?_)
  · refine lv_iconst (v := 0) hx hb dX12_isTenant_18 (by decide) ?_
    exact k_zret hC hr hlocks rfl hw [0, 1] rfl rfl ⟨rfl, rfl⟩ (by decide) (by decide) dX12_isTenant_19
  · refine lv_iload_n hx hb dX12_isTenant_4 rfl (lv_at hl 1 rfl) ?_
    refine lv_aload_n hx hb dX12_isTenant_5 rfl (lv_at hl 0 rfl) ?_
    refine fg_RX12_13 hC hw 0 rfl rfl dX12_isTenant_6 ?_
    refine lv_iconst (v := 1) hx hb dX12_isTenant_9 (by decide) ?_
    refine k_iald hC hw 1 rfl (k_in0 (by decide)) dX12_isTenant_10 ?_
    refine lv_topi (fun x_1182 ex_1182 => ?_)
    obtain rfl : x_1182 = 0 := (show x_1182 = fa 1 from ex_1182).trans ha1
    refine lv_icmp_ge (tgt := 18) hx hb dX12_isTenant_11 (by decide) (fun _ => ?_) (fun h => absurd (Int32.not_lt.mp c1) h)
    refine lv_iconst (v := 0) hx hb dX12_isTenant_18 (by decide) ?_
    exact k_zret hC hr hlocks rfl hw [0, 1] rfl rfl ⟨rfl, rfl⟩ (by decide) (by decide) dX12_isTenant_19

set_option maxHeartbeats 4000000 in
set_option maxRecDepth 100000 in
theorem c_X12_thought (γ : kΓ) (l : Launch) (z : Nat) (z2 : Nat) (z10 : Nat) (z11 : Nat) (z12 : Nat) (z13 : Nat) (z14 : Nat) (z15 : Nat) (z16 : Nat) (z17 : Nat) (z18 : Nat) (z19 : Nat) (z22 : Nat) (z23 : Nat) (z24 : Nat) (z25 : Nat) (z26 : Nat) (z27 : Nat) (z28 : Nat) (z29 : Nat) (z30 : Nat) (z31 : Nat) (z32 : Nat) (z33 : Nat) (z36 : Nat) (z37 : Nat) (z38 : Nat) (z39 : Nat) (z40 : Nat) (z41 : Nat) (z42 : Nat) (z43 : Nat) (z44 : Nat) (z45 : Nat) (z46 : Nat) (z47 : Nat) (z48 : Nat) (z55 : Nat) (z56 : Nat) (z59 : Nat) (z60 : Nat) (z61 : Nat) (fa : Nat → Int32) (t : Int32) (u : Int32) (ha0 : fa 0 = 0) (ha1 : fa 1 = 0) (ha2 : fa 2 = 10) (ha3 : fa 3 = 10) (ha4 : fa 4 = 3) : kM γ l yX12_thought cX12_thought 3 ((some .int)) ({ frames := 1, cells := 0, slots := 0, locals := 21 } : Room) [.ref z, .int t, .int u] [(z, .inr (11, [.int 0, .int 0, .ref z2, .int 0, .int 0, .int 0, .int 0, .long 0, .int 0, .int 0, .ref z10, .ref z11, .ref z12, .ref z13, .ref z14, .ref z15, .ref z16, .ref z17, .ref z18, .ref z19, .int 0, .int 0, .ref z22, .ref z23, .ref z24, .ref z25, .ref z26, .ref z27, .ref z28, .ref z29, .ref z30, .ref z31, .ref z32, .ref z33, .int 0, .long 0, .ref z36, .ref z37, .ref z38, .ref z39, .ref z40, .ref z41, .ref z42, .ref z43, .ref z44, .ref z45, .ref z46, .ref z47, .ref z48, .int 0, .int 10, .int 0, .int 0, .int 0, .int 0, .ref z55, .ref z56, .int 0, .int 0, .ref z59, .ref z60, .ref z61, .int 0, .long 0])), (z10, .inl (γ.2.1 0, 10, .inl fa))] (fun r w1 => r = some (.int (-1)) ∧ w1 = []) := by
  refine k_ofW (by decide) (Nat.le_of_ble_eq_true rfl) ?_
  intro p e s m below meth c A ls hC hr hlocks hname hw hl
  have hx := hC.1
  have hb := hC.2.1
  have hl : lv_has ls 3 [(0, .ref z), (1, .int t), (2, .int u)] := hl
  refine lv_aload_n hx hb dX12_thought_0 rfl (lv_at hl 0 rfl) ?_
  refine lv_iconst (v := 0) hx hb dX12_thought_1 (by decide) ?_
  refine fs_RX12_143 hC hw 0 rfl rfl rfl (Nat.le_of_ble_eq_true rfl) dX12_thought_2 (fun H locs hw => ?_)
  have hw : kW γ A [(z, .inr (11, [.int 0, .int 0, .ref z2, .int 0, .int 0, .int 0, .int 0, .long 0, .int 0, .int 0, .ref z10, .ref z11, .ref z12, .ref z13, .ref z14, .ref z15, .ref z16, .ref z17, .ref z18, .ref z19, .int 0, .int 0, .ref z22, .ref z23, .ref z24, .ref z25, .ref z26, .ref z27, .ref z28, .ref z29, .ref z30, .ref z31, .ref z32, .ref z33, .int 0, .long 0, .ref z36, .ref z37, .ref z38, .ref z39, .ref z40, .ref z41, .ref z42, .ref z43, .ref z44, .ref z45, .ref z46, .ref z47, .ref z48, .int 0, .int 10, .int 0, .int 0, .int 0, .int 0, .ref z55, .ref z56, .int 0, .int 0, .ref z59, .ref z60, .ref z61, .int 0, .long 0])), (z10, .inl (γ.2.1 0, 10, .inl fa))] s H locs := hw
  refine lv_aload_n hx hb dX12_thought_5 rfl (lv_at hl 0 rfl) ?_
  refine lv_iload_n hx hb dX12_thought_6 rfl (lv_at hl 1 rfl) ?_
  refine k_V (wr := []) 1 gw_1549 gw_1551 gp_79 gw_15 gw_1552 hd_X12_isThought hC hw (c_X12_isThought γ l z z2 z10 z11 z12 z13 z14 z15 z16 z17 z18 z19 z22 z23 z24 z25 z26 z27 z28 z29 z30 z31 z32 z33 z36 z37 z38 z39 z40 z41 z42 z43 z44 z45 z46 z47 z48 z55 z56 z59 z60 z61 fa t ha0 ha1 ha2 ha3 ha4) ⟨by decide, by decide⟩ ⟨by decide, by decide⟩ hl.1 rfl 0 rfl rfl rfl (Nat.le_of_ble_eq_true rfl) [0, 1] [] rfl rfl rfl rfl (by decide) dX12_thought_7 (fun r w1 H locs hq hw => ?_)
  obtain ⟨rfl, rfl⟩ := hq
  have hw : kW γ A [(z, .inr (11, [.int 0, .int 0, .ref z2, .int 0, .int 0, .int 0, .int 0, .long 0, .int 0, .int 0, .ref z10, .ref z11, .ref z12, .ref z13, .ref z14, .ref z15, .ref z16, .ref z17, .ref z18, .ref z19, .int 0, .int 0, .ref z22, .ref z23, .ref z24, .ref z25, .ref z26, .ref z27, .ref z28, .ref z29, .ref z30, .ref z31, .ref z32, .ref z33, .int 0, .long 0, .ref z36, .ref z37, .ref z38, .ref z39, .ref z40, .ref z41, .ref z42, .ref z43, .ref z44, .ref z45, .ref z46, .ref z47, .ref z48, .int 0, .int 10, .int 0, .int 0, .int 0, .int 0, .ref z55, .ref z56, .int 0, .int 0, .ref z59, .ref z60, .ref z61, .int 0, .long 0])), (z10, .inl (γ.2.1 0, 10, .inl fa))] s H locs := hw
  refine W.eq (g2 := F0 m 10 ls [.int 0]) rfl ?_
  refine lv_if_eq (tgt := 22) hx hb dX12_thought_10 (by decide) (fun _ => ?_) (fun h => absurd (by decide) h)
  refine lv_iconst (v := (-1)) hx hb dX12_thought_22 (by decide) ?_
  exact k_iret hC hr hlocks hw [] rfl rfl ⟨rfl, rfl⟩ (by decide) (by decide) dX12_thought_23

set_option maxHeartbeats 4000000 in
set_option maxRecDepth 100000 in
theorem c_X12_tenant (γ : kΓ) (l : Launch) (z : Nat) (z2 : Nat) (z10 : Nat) (z11 : Nat) (z12 : Nat) (z13 : Nat) (z14 : Nat) (z15 : Nat) (z16 : Nat) (z17 : Nat) (z18 : Nat) (z19 : Nat) (z22 : Nat) (z23 : Nat) (z24 : Nat) (z25 : Nat) (z26 : Nat) (z27 : Nat) (z28 : Nat) (z29 : Nat) (z30 : Nat) (z31 : Nat) (z32 : Nat) (z33 : Nat) (z36 : Nat) (z37 : Nat) (z38 : Nat) (z39 : Nat) (z40 : Nat) (z41 : Nat) (z42 : Nat) (z43 : Nat) (z44 : Nat) (z45 : Nat) (z46 : Nat) (z47 : Nat) (z48 : Nat) (z55 : Nat) (z56 : Nat) (z59 : Nat) (z60 : Nat) (z61 : Nat) (fa : Nat → Int32) (t : Int32) (u : Int32) (ha0 : fa 0 = 0) (ha1 : fa 1 = 0) (ha2 : fa 2 = 10) (ha3 : fa 3 = 10) (ha4 : fa 4 = 3) : kM γ l yX12_tenant cX12_tenant 3 ((some .int)) ({ frames := 1, cells := 0, slots := 0, locals := 21 } : Room) [.ref z, .int t, .int u] [(z, .inr (11, [.int 0, .int 0, .ref z2, .int 0, .int 0, .int 0, .int 0, .long 0, .int 0, .int 0, .ref z10, .ref z11, .ref z12, .ref z13, .ref z14, .ref z15, .ref z16, .ref z17, .ref z18, .ref z19, .int 0, .int 0, .ref z22, .ref z23, .ref z24, .ref z25, .ref z26, .ref z27, .ref z28, .ref z29, .ref z30, .ref z31, .ref z32, .ref z33, .int 0, .long 0, .ref z36, .ref z37, .ref z38, .ref z39, .ref z40, .ref z41, .ref z42, .ref z43, .ref z44, .ref z45, .ref z46, .ref z47, .ref z48, .int 0, .int 10, .int 0, .int 0, .int 0, .int 0, .ref z55, .ref z56, .int 0, .int 0, .ref z59, .ref z60, .ref z61, .int 0, .long 0])), (z10, .inl (γ.2.1 0, 10, .inl fa))] (fun r w1 => r = some (.int (-1000)) ∧ w1 = []) := by
  refine k_ofW (by decide) (Nat.le_of_ble_eq_true rfl) ?_
  intro p e s m below meth c A ls hC hr hlocks hname hw hl
  have hx := hC.1
  have hb := hC.2.1
  have hl : lv_has ls 3 [(0, .ref z), (1, .int t), (2, .int u)] := hl
  refine lv_aload_n hx hb dX12_tenant_0 rfl (lv_at hl 0 rfl) ?_
  refine lv_iconst (v := 0) hx hb dX12_tenant_1 (by decide) ?_
  refine fs_RX12_143 hC hw 0 rfl rfl rfl (Nat.le_of_ble_eq_true rfl) dX12_tenant_2 (fun H locs hw => ?_)
  have hw : kW γ A [(z, .inr (11, [.int 0, .int 0, .ref z2, .int 0, .int 0, .int 0, .int 0, .long 0, .int 0, .int 0, .ref z10, .ref z11, .ref z12, .ref z13, .ref z14, .ref z15, .ref z16, .ref z17, .ref z18, .ref z19, .int 0, .int 0, .ref z22, .ref z23, .ref z24, .ref z25, .ref z26, .ref z27, .ref z28, .ref z29, .ref z30, .ref z31, .ref z32, .ref z33, .int 0, .long 0, .ref z36, .ref z37, .ref z38, .ref z39, .ref z40, .ref z41, .ref z42, .ref z43, .ref z44, .ref z45, .ref z46, .ref z47, .ref z48, .int 0, .int 10, .int 0, .int 0, .int 0, .int 0, .ref z55, .ref z56, .int 0, .int 0, .ref z59, .ref z60, .ref z61, .int 0, .long 0])), (z10, .inl (γ.2.1 0, 10, .inl fa))] s H locs := hw
  refine lv_aload_n hx hb dX12_tenant_5 rfl (lv_at hl 0 rfl) ?_
  refine lv_iload_n hx hb dX12_tenant_6 rfl (lv_at hl 1 rfl) ?_
  refine k_V (wr := []) 1 gw_1557 gw_1559 gp_80 gw_15 gw_1560 hd_X12_isTenant hC hw (c_X12_isTenant γ l z z2 z10 z11 z12 z13 z14 z15 z16 z17 z18 z19 z22 z23 z24 z25 z26 z27 z28 z29 z30 z31 z32 z33 z36 z37 z38 z39 z40 z41 z42 z43 z44 z45 z46 z47 z48 z55 z56 z59 z60 z61 fa t ha0 ha1 ha2 ha3 ha4) ⟨by decide, by decide⟩ ⟨by decide, by decide⟩ hl.1 rfl 0 rfl rfl rfl (Nat.le_of_ble_eq_true rfl) [0, 1] [] rfl rfl rfl rfl (by decide) dX12_tenant_7 (fun r w1 H locs hq hw => ?_)
  obtain ⟨rfl, rfl⟩ := hq
  have hw : kW γ A [(z, .inr (11, [.int 0, .int 0, .ref z2, .int 0, .int 0, .int 0, .int 0, .long 0, .int 0, .int 0, .ref z10, .ref z11, .ref z12, .ref z13, .ref z14, .ref z15, .ref z16, .ref z17, .ref z18, .ref z19, .int 0, .int 0, .ref z22, .ref z23, .ref z24, .ref z25, .ref z26, .ref z27, .ref z28, .ref z29, .ref z30, .ref z31, .ref z32, .ref z33, .int 0, .long 0, .ref z36, .ref z37, .ref z38, .ref z39, .ref z40, .ref z41, .ref z42, .ref z43, .ref z44, .ref z45, .ref z46, .ref z47, .ref z48, .int 0, .int 10, .int 0, .int 0, .int 0, .int 0, .ref z55, .ref z56, .int 0, .int 0, .ref z59, .ref z60, .ref z61, .int 0, .long 0])), (z10, .inl (γ.2.1 0, 10, .inl fa))] s H locs := hw
  refine W.eq (g2 := F0 m 10 ls [.int 0]) rfl ?_
  refine lv_if_eq (tgt := 22) hx hb dX12_tenant_10 (by decide) (fun _ => ?_) (fun h => absurd (by decide) h)
  refine lv_sipush (v := (-1000)) hx hb dX12_tenant_22 (by decide) ?_
  exact k_iret hC hr hlocks hw [] rfl rfl ⟨rfl, rfl⟩ (by decide) (by decide) dX12_tenant_25

set_option maxHeartbeats 4000000 in
set_option maxRecDepth 100000 in
theorem c_X12_keeps (γ : kΓ) (l : Launch) (z : Nat) (z2 : Nat) (z10 : Nat) (z11 : Nat) (z12 : Nat) (z13 : Nat) (z14 : Nat) (z15 : Nat) (z16 : Nat) (z17 : Nat) (z18 : Nat) (z19 : Nat) (z22 : Nat) (z23 : Nat) (z24 : Nat) (z25 : Nat) (z26 : Nat) (z27 : Nat) (z28 : Nat) (z29 : Nat) (z30 : Nat) (z31 : Nat) (z32 : Nat) (z33 : Nat) (z36 : Nat) (z37 : Nat) (z38 : Nat) (z39 : Nat) (z40 : Nat) (z41 : Nat) (z42 : Nat) (z43 : Nat) (z44 : Nat) (z45 : Nat) (z46 : Nat) (z47 : Nat) (z48 : Nat) (z55 : Nat) (z56 : Nat) (z59 : Nat) (z60 : Nat) (z61 : Nat) (fa : Nat → Int32) (t : Int32) (u : Int32) (ha0 : fa 0 = 0) (ha1 : fa 1 = 0) (ha2 : fa 2 = 10) (ha3 : fa 3 = 10) (ha4 : fa 4 = 3) : kM γ l yX12_keeps cX12_keeps 3 ((some .int)) ({ frames := 1, cells := 0, slots := 0, locals := 21 } : Room) [.ref z, .int t, .int u] [(z, .inr (11, [.int 0, .int 0, .ref z2, .int 0, .int 0, .int 0, .int 0, .long 0, .int 0, .int 0, .ref z10, .ref z11, .ref z12, .ref z13, .ref z14, .ref z15, .ref z16, .ref z17, .ref z18, .ref z19, .int 0, .int 0, .ref z22, .ref z23, .ref z24, .ref z25, .ref z26, .ref z27, .ref z28, .ref z29, .ref z30, .ref z31, .ref z32, .ref z33, .int 0, .long 0, .ref z36, .ref z37, .ref z38, .ref z39, .ref z40, .ref z41, .ref z42, .ref z43, .ref z44, .ref z45, .ref z46, .ref z47, .ref z48, .int 0, .int 10, .int 0, .int 0, .int 0, .int 0, .ref z55, .ref z56, .int 0, .int 0, .ref z59, .ref z60, .ref z61, .int 0, .long 0])), (z10, .inl (γ.2.1 0, 10, .inl fa))] (fun r w1 => r = some (.int (-1)) ∧ w1 = []) := by
  refine k_ofW (by decide) (Nat.le_of_ble_eq_true rfl) ?_
  intro p e s m below meth c A ls hC hr hlocks hname hw hl
  have hx := hC.1
  have hb := hC.2.1
  have hl : lv_has ls 3 [(0, .ref z), (1, .int t), (2, .int u)] := hl
  refine lv_aload_n hx hb dX12_keeps_0 rfl (lv_at hl 0 rfl) ?_
  refine lv_iconst (v := 0) hx hb dX12_keeps_1 (by decide) ?_
  refine fs_RX12_143 hC hw 0 rfl rfl rfl (Nat.le_of_ble_eq_true rfl) dX12_keeps_2 (fun H locs hw => ?_)
  have hw : kW γ A [(z, .inr (11, [.int 0, .int 0, .ref z2, .int 0, .int 0, .int 0, .int 0, .long 0, .int 0, .int 0, .ref z10, .ref z11, .ref z12, .ref z13, .ref z14, .ref z15, .ref z16, .ref z17, .ref z18, .ref z19, .int 0, .int 0, .ref z22, .ref z23, .ref z24, .ref z25, .ref z26, .ref z27, .ref z28, .ref z29, .ref z30, .ref z31, .ref z32, .ref z33, .int 0, .long 0, .ref z36, .ref z37, .ref z38, .ref z39, .ref z40, .ref z41, .ref z42, .ref z43, .ref z44, .ref z45, .ref z46, .ref z47, .ref z48, .int 0, .int 10, .int 0, .int 0, .int 0, .int 0, .ref z55, .ref z56, .int 0, .int 0, .ref z59, .ref z60, .ref z61, .int 0, .long 0])), (z10, .inl (γ.2.1 0, 10, .inl fa))] s H locs := hw
  refine lv_aload_n hx hb dX12_keeps_5 rfl (lv_at hl 0 rfl) ?_
  refine lv_iload_n hx hb dX12_keeps_6 rfl (lv_at hl 1 rfl) ?_
  refine k_V (wr := []) 1 gw_1557 gw_1559 gp_80 gw_15 gw_1560 hd_X12_isTenant hC hw (c_X12_isTenant γ l z z2 z10 z11 z12 z13 z14 z15 z16 z17 z18 z19 z22 z23 z24 z25 z26 z27 z28 z29 z30 z31 z32 z33 z36 z37 z38 z39 z40 z41 z42 z43 z44 z45 z46 z47 z48 z55 z56 z59 z60 z61 fa t ha0 ha1 ha2 ha3 ha4) ⟨by decide, by decide⟩ ⟨by decide, by decide⟩ hl.1 rfl 0 rfl rfl rfl (Nat.le_of_ble_eq_true rfl) [0, 1] [] rfl rfl rfl rfl (by decide) dX12_keeps_7 (fun r w1 H locs hq hw => ?_)
  obtain ⟨rfl, rfl⟩ := hq
  have hw : kW γ A [(z, .inr (11, [.int 0, .int 0, .ref z2, .int 0, .int 0, .int 0, .int 0, .long 0, .int 0, .int 0, .ref z10, .ref z11, .ref z12, .ref z13, .ref z14, .ref z15, .ref z16, .ref z17, .ref z18, .ref z19, .int 0, .int 0, .ref z22, .ref z23, .ref z24, .ref z25, .ref z26, .ref z27, .ref z28, .ref z29, .ref z30, .ref z31, .ref z32, .ref z33, .int 0, .long 0, .ref z36, .ref z37, .ref z38, .ref z39, .ref z40, .ref z41, .ref z42, .ref z43, .ref z44, .ref z45, .ref z46, .ref z47, .ref z48, .int 0, .int 10, .int 0, .int 0, .int 0, .int 0, .ref z55, .ref z56, .int 0, .int 0, .ref z59, .ref z60, .ref z61, .int 0, .long 0])), (z10, .inl (γ.2.1 0, 10, .inl fa))] s H locs := hw
  refine W.eq (g2 := F0 m 10 ls [.int 0]) rfl ?_
  refine lv_if_eq (tgt := 32) hx hb dX12_keeps_10 (by decide) (fun _ => ?_) (fun h => absurd (by decide) h)
  refine lv_iconst (v := (-1)) hx hb dX12_keeps_32 (by decide) ?_
  exact k_iret hC hr hlocks hw [] rfl rfl ⟨rfl, rfl⟩ (by decide) (by decide) dX12_keeps_33

set_option maxHeartbeats 4000000 in
set_option maxRecDepth 100000 in
theorem c_X12_think (γ : kΓ) (l : Launch) (z : Nat) (z2 : Nat) (z10 : Nat) (z11 : Nat) (z12 : Nat) (z13 : Nat) (z14 : Nat) (z15 : Nat) (z16 : Nat) (z17 : Nat) (z18 : Nat) (z19 : Nat) (z22 : Nat) (z23 : Nat) (z24 : Nat) (z25 : Nat) (z26 : Nat) (z27 : Nat) (z28 : Nat) (z29 : Nat) (z30 : Nat) (z31 : Nat) (z32 : Nat) (z33 : Nat) (z36 : Nat) (z37 : Nat) (z38 : Nat) (z39 : Nat) (z40 : Nat) (z41 : Nat) (z42 : Nat) (z43 : Nat) (z44 : Nat) (z45 : Nat) (z46 : Nat) (z47 : Nat) (z48 : Nat) (z55 : Nat) (z56 : Nat) (z59 : Nat) (z60 : Nat) (z61 : Nat) (fa : Nat → Int32) (t : Int32) (u : Int32) (ha0 : fa 0 = 0) (ha1 : fa 1 = 0) (ha2 : fa 2 = 10) (ha3 : fa 3 = 10) (ha4 : fa 4 = 3) : kM γ l yX12_think cX12_think 3 ((some .int)) ({ frames := 1, cells := 0, slots := 0, locals := 21 } : Room) [.ref z, .int t, .int u] [(z, .inr (11, [.int 0, .int 0, .ref z2, .int 0, .int 0, .int 0, .int 0, .long 0, .int 0, .int 0, .ref z10, .ref z11, .ref z12, .ref z13, .ref z14, .ref z15, .ref z16, .ref z17, .ref z18, .ref z19, .int 0, .int 0, .ref z22, .ref z23, .ref z24, .ref z25, .ref z26, .ref z27, .ref z28, .ref z29, .ref z30, .ref z31, .ref z32, .ref z33, .int 0, .long 0, .ref z36, .ref z37, .ref z38, .ref z39, .ref z40, .ref z41, .ref z42, .ref z43, .ref z44, .ref z45, .ref z46, .ref z47, .ref z48, .int 0, .int 10, .int 0, .int 0, .int 0, .int 0, .ref z55, .ref z56, .int 0, .int 0, .ref z59, .ref z60, .ref z61, .int 0, .long 0])), (z10, .inl (γ.2.1 0, 10, .inl fa))] (fun r w1 => r = some (.int (-1)) ∧ w1 = []) := by
  refine k_ofW (by decide) (Nat.le_of_ble_eq_true rfl) ?_
  intro p e s m below meth c A ls hC hr hlocks hname hw hl
  have hx := hC.1
  have hb := hC.2.1
  have hl : lv_has ls 3 [(0, .ref z), (1, .int t), (2, .int u)] := hl
  refine lv_aload_n hx hb dX12_think_0 rfl (lv_at hl 0 rfl) ?_
  refine lv_iconst (v := 0) hx hb dX12_think_1 (by decide) ?_
  refine fs_RX12_143 hC hw 0 rfl rfl rfl (Nat.le_of_ble_eq_true rfl) dX12_think_2 (fun H locs hw => ?_)
  have hw : kW γ A [(z, .inr (11, [.int 0, .int 0, .ref z2, .int 0, .int 0, .int 0, .int 0, .long 0, .int 0, .int 0, .ref z10, .ref z11, .ref z12, .ref z13, .ref z14, .ref z15, .ref z16, .ref z17, .ref z18, .ref z19, .int 0, .int 0, .ref z22, .ref z23, .ref z24, .ref z25, .ref z26, .ref z27, .ref z28, .ref z29, .ref z30, .ref z31, .ref z32, .ref z33, .int 0, .long 0, .ref z36, .ref z37, .ref z38, .ref z39, .ref z40, .ref z41, .ref z42, .ref z43, .ref z44, .ref z45, .ref z46, .ref z47, .ref z48, .int 0, .int 10, .int 0, .int 0, .int 0, .int 0, .ref z55, .ref z56, .int 0, .int 0, .ref z59, .ref z60, .ref z61, .int 0, .long 0])), (z10, .inl (γ.2.1 0, 10, .inl fa))] s H locs := hw
  refine lv_aload_n hx hb dX12_think_5 rfl (lv_at hl 0 rfl) ?_
  refine lv_iload_n hx hb dX12_think_6 rfl (lv_at hl 1 rfl) ?_
  refine k_V (wr := []) 1 gw_1557 gw_1559 gp_80 gw_15 gw_1560 hd_X12_isTenant hC hw (c_X12_isTenant γ l z z2 z10 z11 z12 z13 z14 z15 z16 z17 z18 z19 z22 z23 z24 z25 z26 z27 z28 z29 z30 z31 z32 z33 z36 z37 z38 z39 z40 z41 z42 z43 z44 z45 z46 z47 z48 z55 z56 z59 z60 z61 fa t ha0 ha1 ha2 ha3 ha4) ⟨by decide, by decide⟩ ⟨by decide, by decide⟩ hl.1 rfl 0 rfl rfl rfl (Nat.le_of_ble_eq_true rfl) [0, 1] [] rfl rfl rfl rfl (by decide) dX12_think_7 (fun r w1 H locs hq hw => ?_)
  obtain ⟨rfl, rfl⟩ := hq
  have hw : kW γ A [(z, .inr (11, [.int 0, .int 0, .ref z2, .int 0, .int 0, .int 0, .int 0, .long 0, .int 0, .int 0, .ref z10, .ref z11, .ref z12, .ref z13, .ref z14, .ref z15, .ref z16, .ref z17, .ref z18, .ref z19, .int 0, .int 0, .ref z22, .ref z23, .ref z24, .ref z25, .ref z26, .ref z27, .ref z28, .ref z29, .ref z30, .ref z31, .ref z32, .ref z33, .int 0, .long 0, .ref z36, .ref z37, .ref z38, .ref z39, .ref z40, .ref z41, .ref z42, .ref z43, .ref z44, .ref z45, .ref z46, .ref z47, .ref z48, .int 0, .int 10, .int 0, .int 0, .int 0, .int 0, .ref z55, .ref z56, .int 0, .int 0, .ref z59, .ref z60, .ref z61, .int 0, .long 0])), (z10, .inl (γ.2.1 0, 10, .inl fa))] s H locs := hw
  refine W.eq (g2 := F0 m 10 ls [.int 0]) rfl ?_
  refine lv_if_eq (tgt := 33) hx hb dX12_think_10 (by decide) (fun _ => ?_) (fun h => absurd (by decide) h)
  refine lv_iconst (v := (-1)) hx hb dX12_think_33 (by decide) ?_
  exact k_iret hC hr hlocks hw [] rfl rfl ⟨rfl, rfl⟩ (by decide) (by decide) dX12_think_34

set_option maxHeartbeats 4000000 in
set_option maxRecDepth 100000 in
theorem c_X12_pool (γ : kΓ) (l : Launch) (z : Nat) (z2 : Nat) (z10 : Nat) (z11 : Nat) (z12 : Nat) (z13 : Nat) (z14 : Nat) (z15 : Nat) (z16 : Nat) (z17 : Nat) (z18 : Nat) (z19 : Nat) (z22 : Nat) (z23 : Nat) (z24 : Nat) (z25 : Nat) (z26 : Nat) (z27 : Nat) (z28 : Nat) (z29 : Nat) (z30 : Nat) (z31 : Nat) (z32 : Nat) (z33 : Nat) (z36 : Nat) (z37 : Nat) (z38 : Nat) (z39 : Nat) (z40 : Nat) (z41 : Nat) (z42 : Nat) (z43 : Nat) (z44 : Nat) (z45 : Nat) (z46 : Nat) (z47 : Nat) (z48 : Nat) (z55 : Nat) (z56 : Nat) (z59 : Nat) (z60 : Nat) (z61 : Nat) (fa : Nat → Int32) (t : Int32) (u : Int32) (ha0 : fa 0 = 0) (ha1 : fa 1 = 0) (ha2 : fa 2 = 10) (ha3 : fa 3 = 10) (ha4 : fa 4 = 3) : kM γ l yX12_pool cX12_pool 3 ((some .boolean)) ({ frames := 1, cells := 0, slots := 0, locals := 21 } : Room) [.ref z, .int t, .int u] [(z, .inr (11, [.int 0, .int 0, .ref z2, .int 0, .int 0, .int 0, .int 0, .long 0, .int 0, .int 0, .ref z10, .ref z11, .ref z12, .ref z13, .ref z14, .ref z15, .ref z16, .ref z17, .ref z18, .ref z19, .int 0, .int 0, .ref z22, .ref z23, .ref z24, .ref z25, .ref z26, .ref z27, .ref z28, .ref z29, .ref z30, .ref z31, .ref z32, .ref z33, .int 0, .long 0, .ref z36, .ref z37, .ref z38, .ref z39, .ref z40, .ref z41, .ref z42, .ref z43, .ref z44, .ref z45, .ref z46, .ref z47, .ref z48, .int 0, .int 10, .int 0, .int 0, .int 0, .int 0, .ref z55, .ref z56, .int 0, .int 0, .ref z59, .ref z60, .ref z61, .int 0, .long 0])), (z10, .inl (γ.2.1 0, 10, .inl fa))] (fun r w1 => r = some (.int 0) ∧ w1 = []) := by
  refine k_ofW (by decide) (Nat.le_of_ble_eq_true rfl) ?_
  intro p e s m below meth c A ls hC hr hlocks hname hw hl
  have hx := hC.1
  have hb := hC.2.1
  have hl : lv_has ls 3 [(0, .ref z), (1, .int t), (2, .int u)] := hl
  refine lv_aload_n hx hb dX12_pool_0 rfl (lv_at hl 0 rfl) ?_
  refine lv_iconst (v := 0) hx hb dX12_pool_1 (by decide) ?_
  refine fs_RX12_143 hC hw 0 rfl rfl rfl (Nat.le_of_ble_eq_true rfl) dX12_pool_2 (fun H locs hw => ?_)
  have hw : kW γ A [(z, .inr (11, [.int 0, .int 0, .ref z2, .int 0, .int 0, .int 0, .int 0, .long 0, .int 0, .int 0, .ref z10, .ref z11, .ref z12, .ref z13, .ref z14, .ref z15, .ref z16, .ref z17, .ref z18, .ref z19, .int 0, .int 0, .ref z22, .ref z23, .ref z24, .ref z25, .ref z26, .ref z27, .ref z28, .ref z29, .ref z30, .ref z31, .ref z32, .ref z33, .int 0, .long 0, .ref z36, .ref z37, .ref z38, .ref z39, .ref z40, .ref z41, .ref z42, .ref z43, .ref z44, .ref z45, .ref z46, .ref z47, .ref z48, .int 0, .int 10, .int 0, .int 0, .int 0, .int 0, .ref z55, .ref z56, .int 0, .int 0, .ref z59, .ref z60, .ref z61, .int 0, .long 0])), (z10, .inl (γ.2.1 0, 10, .inl fa))] s H locs := hw
  refine lv_aload_n hx hb dX12_pool_5 rfl (lv_at hl 0 rfl) ?_
  refine lv_iload_n hx hb dX12_pool_6 rfl (lv_at hl 1 rfl) ?_
  refine k_V (wr := []) 1 gw_1557 gw_1559 gp_80 gw_15 gw_1560 hd_X12_isTenant hC hw (c_X12_isTenant γ l z z2 z10 z11 z12 z13 z14 z15 z16 z17 z18 z19 z22 z23 z24 z25 z26 z27 z28 z29 z30 z31 z32 z33 z36 z37 z38 z39 z40 z41 z42 z43 z44 z45 z46 z47 z48 z55 z56 z59 z60 z61 fa t ha0 ha1 ha2 ha3 ha4) ⟨by decide, by decide⟩ ⟨by decide, by decide⟩ hl.1 rfl 0 rfl rfl rfl (Nat.le_of_ble_eq_true rfl) [0, 1] [] rfl rfl rfl rfl (by decide) dX12_pool_7 (fun r w1 H locs hq hw => ?_)
  obtain ⟨rfl, rfl⟩ := hq
  have hw : kW γ A [(z, .inr (11, [.int 0, .int 0, .ref z2, .int 0, .int 0, .int 0, .int 0, .long 0, .int 0, .int 0, .ref z10, .ref z11, .ref z12, .ref z13, .ref z14, .ref z15, .ref z16, .ref z17, .ref z18, .ref z19, .int 0, .int 0, .ref z22, .ref z23, .ref z24, .ref z25, .ref z26, .ref z27, .ref z28, .ref z29, .ref z30, .ref z31, .ref z32, .ref z33, .int 0, .long 0, .ref z36, .ref z37, .ref z38, .ref z39, .ref z40, .ref z41, .ref z42, .ref z43, .ref z44, .ref z45, .ref z46, .ref z47, .ref z48, .int 0, .int 10, .int 0, .int 0, .int 0, .int 0, .ref z55, .ref z56, .int 0, .int 0, .ref z59, .ref z60, .ref z61, .int 0, .long 0])), (z10, .inl (γ.2.1 0, 10, .inl fa))] s H locs := hw
  refine W.eq (g2 := F0 m 10 ls [.int 0]) rfl ?_
  refine lv_if_eq (tgt := 30) hx hb dX12_pool_10 (by decide) (fun _ => ?_) (fun h => absurd (by decide) h)
  refine lv_iconst (v := 0) hx hb dX12_pool_30 (by decide) ?_
  exact k_zret hC hr hlocks rfl hw [] rfl rfl ⟨rfl, rfl⟩ (by decide) (by decide) dX12_pool_31

set_option maxHeartbeats 4000000 in
set_option maxRecDepth 100000 in
theorem c_X12_tithed (γ : kΓ) (l : Launch) (z : Nat) (z2 : Nat) (z10 : Nat) (z11 : Nat) (z12 : Nat) (z13 : Nat) (z14 : Nat) (z15 : Nat) (z16 : Nat) (z17 : Nat) (z18 : Nat) (z19 : Nat) (z22 : Nat) (z23 : Nat) (z24 : Nat) (z25 : Nat) (z26 : Nat) (z27 : Nat) (z28 : Nat) (z29 : Nat) (z30 : Nat) (z31 : Nat) (z32 : Nat) (z33 : Nat) (z36 : Nat) (z37 : Nat) (z38 : Nat) (z39 : Nat) (z40 : Nat) (z41 : Nat) (z42 : Nat) (z43 : Nat) (z44 : Nat) (z45 : Nat) (z46 : Nat) (z47 : Nat) (z48 : Nat) (z55 : Nat) (z56 : Nat) (z59 : Nat) (z60 : Nat) (z61 : Nat) (fa : Nat → Int32) (t : Int32) (u : Int32) (ha0 : fa 0 = 0) (ha1 : fa 1 = 0) (ha2 : fa 2 = 10) (ha3 : fa 3 = 10) (ha4 : fa 4 = 3) : kM γ l yX12_tithed cX12_tithed 6 ((some .int)) ({ frames := 1, cells := 0, slots := 0, locals := 21 } : Room) [.ref z, .int t, .int u] [(z, .inr (11, [.int 0, .int 0, .ref z2, .int 0, .int 0, .int 0, .int 0, .long 0, .int 0, .int 0, .ref z10, .ref z11, .ref z12, .ref z13, .ref z14, .ref z15, .ref z16, .ref z17, .ref z18, .ref z19, .int 0, .int 0, .ref z22, .ref z23, .ref z24, .ref z25, .ref z26, .ref z27, .ref z28, .ref z29, .ref z30, .ref z31, .ref z32, .ref z33, .int 0, .long 0, .ref z36, .ref z37, .ref z38, .ref z39, .ref z40, .ref z41, .ref z42, .ref z43, .ref z44, .ref z45, .ref z46, .ref z47, .ref z48, .int 0, .int 10, .int 0, .int 0, .int 0, .int 0, .ref z55, .ref z56, .int 0, .int 0, .ref z59, .ref z60, .ref z61, .int 0, .long 0])), (z10, .inl (γ.2.1 0, 10, .inl fa))] (fun r w1 => r = some (.int (-1)) ∧ w1 = []) := by
  refine k_ofW (by decide) (Nat.le_of_ble_eq_true rfl) ?_
  intro p e s m below meth c A ls hC hr hlocks hname hw hl
  have hx := hC.1
  have hb := hC.2.1
  have hl : lv_has ls 6 [(0, .ref z), (1, .int t), (2, .int u)] := hl
  refine lv_aload_n hx hb dX12_tithed_0 rfl (lv_at hl 0 rfl) ?_
  refine lv_iconst (v := 0) hx hb dX12_tithed_1 (by decide) ?_
  refine fs_RX12_143 hC hw 0 rfl rfl rfl (Nat.le_of_ble_eq_true rfl) dX12_tithed_2 (fun H locs hw => ?_)
  have hw : kW γ A [(z, .inr (11, [.int 0, .int 0, .ref z2, .int 0, .int 0, .int 0, .int 0, .long 0, .int 0, .int 0, .ref z10, .ref z11, .ref z12, .ref z13, .ref z14, .ref z15, .ref z16, .ref z17, .ref z18, .ref z19, .int 0, .int 0, .ref z22, .ref z23, .ref z24, .ref z25, .ref z26, .ref z27, .ref z28, .ref z29, .ref z30, .ref z31, .ref z32, .ref z33, .int 0, .long 0, .ref z36, .ref z37, .ref z38, .ref z39, .ref z40, .ref z41, .ref z42, .ref z43, .ref z44, .ref z45, .ref z46, .ref z47, .ref z48, .int 0, .int 10, .int 0, .int 0, .int 0, .int 0, .ref z55, .ref z56, .int 0, .int 0, .ref z59, .ref z60, .ref z61, .int 0, .long 0])), (z10, .inl (γ.2.1 0, 10, .inl fa))] s H locs := hw
  refine lv_aload_n hx hb dX12_tithed_5 rfl (lv_at hl 0 rfl) ?_
  refine lv_iload_n hx hb dX12_tithed_6 rfl (lv_at hl 1 rfl) ?_
  refine k_V (wr := []) 1 gw_1557 gw_1559 gp_80 gw_15 gw_1560 hd_X12_isTenant hC hw (c_X12_isTenant γ l z z2 z10 z11 z12 z13 z14 z15 z16 z17 z18 z19 z22 z23 z24 z25 z26 z27 z28 z29 z30 z31 z32 z33 z36 z37 z38 z39 z40 z41 z42 z43 z44 z45 z46 z47 z48 z55 z56 z59 z60 z61 fa t ha0 ha1 ha2 ha3 ha4) ⟨by decide, by decide⟩ ⟨by decide, by decide⟩ hl.1 rfl 0 rfl rfl rfl (Nat.le_of_ble_eq_true rfl) [0, 1] [] rfl rfl rfl rfl (by decide) dX12_tithed_7 (fun r w1 H locs hq hw => ?_)
  obtain ⟨rfl, rfl⟩ := hq
  have hw : kW γ A [(z, .inr (11, [.int 0, .int 0, .ref z2, .int 0, .int 0, .int 0, .int 0, .long 0, .int 0, .int 0, .ref z10, .ref z11, .ref z12, .ref z13, .ref z14, .ref z15, .ref z16, .ref z17, .ref z18, .ref z19, .int 0, .int 0, .ref z22, .ref z23, .ref z24, .ref z25, .ref z26, .ref z27, .ref z28, .ref z29, .ref z30, .ref z31, .ref z32, .ref z33, .int 0, .long 0, .ref z36, .ref z37, .ref z38, .ref z39, .ref z40, .ref z41, .ref z42, .ref z43, .ref z44, .ref z45, .ref z46, .ref z47, .ref z48, .int 0, .int 10, .int 0, .int 0, .int 0, .int 0, .ref z55, .ref z56, .int 0, .int 0, .ref z59, .ref z60, .ref z61, .int 0, .long 0])), (z10, .inl (γ.2.1 0, 10, .inl fa))] s H locs := hw
  refine W.eq (g2 := F0 m 10 ls [.int 0]) rfl ?_
  refine lv_if_eq (tgt := 29) hx hb dX12_tithed_10 (by decide) (fun _ => ?_) (fun h => absurd (by decide) h)
  refine lv_iconst (v := (-1)) hx hb dX12_tithed_29 (by decide) ?_
  exact k_iret hC hr hlocks hw [] rfl rfl ⟨rfl, rfl⟩ (by decide) (by decide) dX12_tithed_30

set_option maxHeartbeats 4000000 in
set_option maxRecDepth 100000 in
theorem c_X12_chance (γ : kΓ) (l : Launch) (z : Nat) (z2 : Nat) (z10 : Nat) (z11 : Nat) (z12 : Nat) (z13 : Nat) (z14 : Nat) (z15 : Nat) (z16 : Nat) (z17 : Nat) (z18 : Nat) (z19 : Nat) (z22 : Nat) (z23 : Nat) (z24 : Nat) (z25 : Nat) (z26 : Nat) (z27 : Nat) (z28 : Nat) (z29 : Nat) (z30 : Nat) (z31 : Nat) (z32 : Nat) (z33 : Nat) (z36 : Nat) (z37 : Nat) (z38 : Nat) (z39 : Nat) (z40 : Nat) (z41 : Nat) (z42 : Nat) (z43 : Nat) (z44 : Nat) (z45 : Nat) (z46 : Nat) (z47 : Nat) (z48 : Nat) (z55 : Nat) (z56 : Nat) (z59 : Nat) (z60 : Nat) (z61 : Nat) (fa : Nat → Int32) (t : Int32) (u : Int32) (ha0 : fa 0 = 0) (ha1 : fa 1 = 0) (ha2 : fa 2 = 10) (ha3 : fa 3 = 10) (ha4 : fa 4 = 3) : kM γ l yX12_chance cX12_chance 6 ((some .int)) ({ frames := 1, cells := 0, slots := 0, locals := 21 } : Room) [.ref z, .int t, .int u] [(z, .inr (11, [.int 0, .int 0, .ref z2, .int 0, .int 0, .int 0, .int 0, .long 0, .int 0, .int 0, .ref z10, .ref z11, .ref z12, .ref z13, .ref z14, .ref z15, .ref z16, .ref z17, .ref z18, .ref z19, .int 0, .int 0, .ref z22, .ref z23, .ref z24, .ref z25, .ref z26, .ref z27, .ref z28, .ref z29, .ref z30, .ref z31, .ref z32, .ref z33, .int 0, .long 0, .ref z36, .ref z37, .ref z38, .ref z39, .ref z40, .ref z41, .ref z42, .ref z43, .ref z44, .ref z45, .ref z46, .ref z47, .ref z48, .int 0, .int 10, .int 0, .int 0, .int 0, .int 0, .ref z55, .ref z56, .int 0, .int 0, .ref z59, .ref z60, .ref z61, .int 0, .long 0])), (z10, .inl (γ.2.1 0, 10, .inl fa))] (fun r w1 => r = some (.int (-1)) ∧ w1 = []) := by
  refine k_ofW (by decide) (Nat.le_of_ble_eq_true rfl) ?_
  intro p e s m below meth c A ls hC hr hlocks hname hw hl
  have hx := hC.1
  have hb := hC.2.1
  have hl : lv_has ls 6 [(0, .ref z), (1, .int t), (2, .int u)] := hl
  refine lv_aload_n hx hb dX12_chance_0 rfl (lv_at hl 0 rfl) ?_
  refine lv_iconst (v := 0) hx hb dX12_chance_1 (by decide) ?_
  refine fs_RX12_143 hC hw 0 rfl rfl rfl (Nat.le_of_ble_eq_true rfl) dX12_chance_2 (fun H locs hw => ?_)
  have hw : kW γ A [(z, .inr (11, [.int 0, .int 0, .ref z2, .int 0, .int 0, .int 0, .int 0, .long 0, .int 0, .int 0, .ref z10, .ref z11, .ref z12, .ref z13, .ref z14, .ref z15, .ref z16, .ref z17, .ref z18, .ref z19, .int 0, .int 0, .ref z22, .ref z23, .ref z24, .ref z25, .ref z26, .ref z27, .ref z28, .ref z29, .ref z30, .ref z31, .ref z32, .ref z33, .int 0, .long 0, .ref z36, .ref z37, .ref z38, .ref z39, .ref z40, .ref z41, .ref z42, .ref z43, .ref z44, .ref z45, .ref z46, .ref z47, .ref z48, .int 0, .int 10, .int 0, .int 0, .int 0, .int 0, .ref z55, .ref z56, .int 0, .int 0, .ref z59, .ref z60, .ref z61, .int 0, .long 0])), (z10, .inl (γ.2.1 0, 10, .inl fa))] s H locs := hw
  refine lv_aload_n hx hb dX12_chance_5 rfl (lv_at hl 0 rfl) ?_
  refine lv_iload_n hx hb dX12_chance_6 rfl (lv_at hl 1 rfl) ?_
  refine k_V (wr := []) 1 gw_1557 gw_1559 gp_80 gw_15 gw_1560 hd_X12_isTenant hC hw (c_X12_isTenant γ l z z2 z10 z11 z12 z13 z14 z15 z16 z17 z18 z19 z22 z23 z24 z25 z26 z27 z28 z29 z30 z31 z32 z33 z36 z37 z38 z39 z40 z41 z42 z43 z44 z45 z46 z47 z48 z55 z56 z59 z60 z61 fa t ha0 ha1 ha2 ha3 ha4) ⟨by decide, by decide⟩ ⟨by decide, by decide⟩ hl.1 rfl 0 rfl rfl rfl (Nat.le_of_ble_eq_true rfl) [0, 1] [] rfl rfl rfl rfl (by decide) dX12_chance_7 (fun r w1 H locs hq hw => ?_)
  obtain ⟨rfl, rfl⟩ := hq
  have hw : kW γ A [(z, .inr (11, [.int 0, .int 0, .ref z2, .int 0, .int 0, .int 0, .int 0, .long 0, .int 0, .int 0, .ref z10, .ref z11, .ref z12, .ref z13, .ref z14, .ref z15, .ref z16, .ref z17, .ref z18, .ref z19, .int 0, .int 0, .ref z22, .ref z23, .ref z24, .ref z25, .ref z26, .ref z27, .ref z28, .ref z29, .ref z30, .ref z31, .ref z32, .ref z33, .int 0, .long 0, .ref z36, .ref z37, .ref z38, .ref z39, .ref z40, .ref z41, .ref z42, .ref z43, .ref z44, .ref z45, .ref z46, .ref z47, .ref z48, .int 0, .int 10, .int 0, .int 0, .int 0, .int 0, .ref z55, .ref z56, .int 0, .int 0, .ref z59, .ref z60, .ref z61, .int 0, .long 0])), (z10, .inl (γ.2.1 0, 10, .inl fa))] s H locs := hw
  refine W.eq (g2 := F0 m 10 ls [.int 0]) rfl ?_
  refine lv_if_eq (tgt := 29) hx hb dX12_chance_10 (by decide) (fun _ => ?_) (fun h => absurd (by decide) h)
  refine lv_iconst (v := (-1)) hx hb dX12_chance_29 (by decide) ?_
  exact k_iret hC hr hlocks hw [] rfl rfl ⟨rfl, rfl⟩ (by decide) (by decide) dX12_chance_30

set_option maxHeartbeats 4000000 in
set_option maxRecDepth 100000 in
theorem c_X12_gate (γ : kΓ) (l : Launch) (z : Nat) (z2 : Nat) (z10 : Nat) (z11 : Nat) (z12 : Nat) (z13 : Nat) (z14 : Nat) (z15 : Nat) (z16 : Nat) (z17 : Nat) (z18 : Nat) (z19 : Nat) (z22 : Nat) (z23 : Nat) (z24 : Nat) (z25 : Nat) (z26 : Nat) (z27 : Nat) (z28 : Nat) (z29 : Nat) (z30 : Nat) (z31 : Nat) (z32 : Nat) (z33 : Nat) (z36 : Nat) (z37 : Nat) (z38 : Nat) (z39 : Nat) (z40 : Nat) (z41 : Nat) (z42 : Nat) (z43 : Nat) (z44 : Nat) (z45 : Nat) (z46 : Nat) (z47 : Nat) (z48 : Nat) (z55 : Nat) (z56 : Nat) (z59 : Nat) (z60 : Nat) (z61 : Nat) (fa : Nat → Int32) (t : Int32) (ha0 : fa 0 = 0) (ha1 : fa 1 = 0) (ha2 : fa 2 = 10) (ha3 : fa 3 = 10) (ha4 : fa 4 = 3) : kM γ l yX12_gate cX12_gate 2 ((some .int)) ({ frames := 1, cells := 0, slots := 0, locals := 21 } : Room) [.ref z, .int t] [(z, .inr (11, [.int 0, .int 0, .ref z2, .int 0, .int 0, .int 0, .int 0, .long 0, .int 0, .int 0, .ref z10, .ref z11, .ref z12, .ref z13, .ref z14, .ref z15, .ref z16, .ref z17, .ref z18, .ref z19, .int 0, .int 0, .ref z22, .ref z23, .ref z24, .ref z25, .ref z26, .ref z27, .ref z28, .ref z29, .ref z30, .ref z31, .ref z32, .ref z33, .int 0, .long 0, .ref z36, .ref z37, .ref z38, .ref z39, .ref z40, .ref z41, .ref z42, .ref z43, .ref z44, .ref z45, .ref z46, .ref z47, .ref z48, .int 0, .int 10, .int 0, .int 0, .int 0, .int 0, .ref z55, .ref z56, .int 0, .int 0, .ref z59, .ref z60, .ref z61, .int 0, .long 0])), (z10, .inl (γ.2.1 0, 10, .inl fa))] (fun r w1 => r = some (.int (-1)) ∧ w1 = []) := by
  refine k_ofW (by decide) (Nat.le_of_ble_eq_true rfl) ?_
  intro p e s m below meth c A ls hC hr hlocks hname hw hl
  have hx := hC.1
  have hb := hC.2.1
  have hl : lv_has ls 2 [(0, .ref z), (1, .int t)] := hl
  refine lv_aload_n hx hb dX12_gate_0 rfl (lv_at hl 0 rfl) ?_
  refine lv_iconst (v := 0) hx hb dX12_gate_1 (by decide) ?_
  refine fs_RX12_143 hC hw 0 rfl rfl rfl (Nat.le_of_ble_eq_true rfl) dX12_gate_2 (fun H locs hw => ?_)
  have hw : kW γ A [(z, .inr (11, [.int 0, .int 0, .ref z2, .int 0, .int 0, .int 0, .int 0, .long 0, .int 0, .int 0, .ref z10, .ref z11, .ref z12, .ref z13, .ref z14, .ref z15, .ref z16, .ref z17, .ref z18, .ref z19, .int 0, .int 0, .ref z22, .ref z23, .ref z24, .ref z25, .ref z26, .ref z27, .ref z28, .ref z29, .ref z30, .ref z31, .ref z32, .ref z33, .int 0, .long 0, .ref z36, .ref z37, .ref z38, .ref z39, .ref z40, .ref z41, .ref z42, .ref z43, .ref z44, .ref z45, .ref z46, .ref z47, .ref z48, .int 0, .int 10, .int 0, .int 0, .int 0, .int 0, .ref z55, .ref z56, .int 0, .int 0, .ref z59, .ref z60, .ref z61, .int 0, .long 0])), (z10, .inl (γ.2.1 0, 10, .inl fa))] s H locs := hw
  refine lv_aload_n hx hb dX12_gate_5 rfl (lv_at hl 0 rfl) ?_
  refine lv_iload_n hx hb dX12_gate_6 rfl (lv_at hl 1 rfl) ?_
  refine k_V (wr := []) 1 gw_1557 gw_1559 gp_80 gw_15 gw_1560 hd_X12_isTenant hC hw (c_X12_isTenant γ l z z2 z10 z11 z12 z13 z14 z15 z16 z17 z18 z19 z22 z23 z24 z25 z26 z27 z28 z29 z30 z31 z32 z33 z36 z37 z38 z39 z40 z41 z42 z43 z44 z45 z46 z47 z48 z55 z56 z59 z60 z61 fa t ha0 ha1 ha2 ha3 ha4) ⟨by decide, by decide⟩ ⟨by decide, by decide⟩ hl.1 rfl 0 rfl rfl rfl (Nat.le_of_ble_eq_true rfl) [0, 1] [] rfl rfl rfl rfl (by decide) dX12_gate_7 (fun r w1 H locs hq hw => ?_)
  obtain ⟨rfl, rfl⟩ := hq
  have hw : kW γ A [(z, .inr (11, [.int 0, .int 0, .ref z2, .int 0, .int 0, .int 0, .int 0, .long 0, .int 0, .int 0, .ref z10, .ref z11, .ref z12, .ref z13, .ref z14, .ref z15, .ref z16, .ref z17, .ref z18, .ref z19, .int 0, .int 0, .ref z22, .ref z23, .ref z24, .ref z25, .ref z26, .ref z27, .ref z28, .ref z29, .ref z30, .ref z31, .ref z32, .ref z33, .int 0, .long 0, .ref z36, .ref z37, .ref z38, .ref z39, .ref z40, .ref z41, .ref z42, .ref z43, .ref z44, .ref z45, .ref z46, .ref z47, .ref z48, .int 0, .int 10, .int 0, .int 0, .int 0, .int 0, .ref z55, .ref z56, .int 0, .int 0, .ref z59, .ref z60, .ref z61, .int 0, .long 0])), (z10, .inl (γ.2.1 0, 10, .inl fa))] s H locs := hw
  refine W.eq (g2 := F0 m 10 ls [.int 0]) rfl ?_
  refine lv_if_eq (tgt := 21) hx hb dX12_gate_10 (by decide) (fun _ => ?_) (fun h => absurd (by decide) h)
  refine lv_iconst (v := (-1)) hx hb dX12_gate_21 (by decide) ?_
  exact k_iret hC hr hlocks hw [] rfl rfl ⟨rfl, rfl⟩ (by decide) (by decide) dX12_gate_22

set_option maxHeartbeats 4000000 in
set_option maxRecDepth 100000 in
theorem c_X12_safe (γ : kΓ) (l : Launch) (z : Nat) (z2 : Nat) (z10 : Nat) (z11 : Nat) (z12 : Nat) (z13 : Nat) (z14 : Nat) (z15 : Nat) (z16 : Nat) (z17 : Nat) (z18 : Nat) (z19 : Nat) (z22 : Nat) (z23 : Nat) (z24 : Nat) (z25 : Nat) (z26 : Nat) (z27 : Nat) (z28 : Nat) (z29 : Nat) (z30 : Nat) (z31 : Nat) (z32 : Nat) (z33 : Nat) (z36 : Nat) (z37 : Nat) (z38 : Nat) (z39 : Nat) (z40 : Nat) (z41 : Nat) (z42 : Nat) (z43 : Nat) (z44 : Nat) (z45 : Nat) (z46 : Nat) (z47 : Nat) (z48 : Nat) (z55 : Nat) (z56 : Nat) (z59 : Nat) (z60 : Nat) (z61 : Nat) (fa : Nat → Int32) (t : Int32) (ha0 : fa 0 = 0) (ha1 : fa 1 = 0) (ha2 : fa 2 = 10) (ha3 : fa 3 = 10) (ha4 : fa 4 = 3) : kM γ l yX12_safe cX12_safe 5 ((some .int)) ({ frames := 1, cells := 0, slots := 0, locals := 21 } : Room) [.ref z, .int t] [(z, .inr (11, [.int 0, .int 0, .ref z2, .int 0, .int 0, .int 0, .int 0, .long 0, .int 0, .int 0, .ref z10, .ref z11, .ref z12, .ref z13, .ref z14, .ref z15, .ref z16, .ref z17, .ref z18, .ref z19, .int 0, .int 0, .ref z22, .ref z23, .ref z24, .ref z25, .ref z26, .ref z27, .ref z28, .ref z29, .ref z30, .ref z31, .ref z32, .ref z33, .int 0, .long 0, .ref z36, .ref z37, .ref z38, .ref z39, .ref z40, .ref z41, .ref z42, .ref z43, .ref z44, .ref z45, .ref z46, .ref z47, .ref z48, .int 0, .int 10, .int 0, .int 0, .int 0, .int 0, .ref z55, .ref z56, .int 0, .int 0, .ref z59, .ref z60, .ref z61, .int 0, .long 0])), (z10, .inl (γ.2.1 0, 10, .inl fa))] (fun r w1 => r = some (.int (-1)) ∧ w1 = []) := by
  refine k_ofW (by decide) (Nat.le_of_ble_eq_true rfl) ?_
  intro p e s m below meth c A ls hC hr hlocks hname hw hl
  have hx := hC.1
  have hb := hC.2.1
  have hl : lv_has ls 5 [(0, .ref z), (1, .int t)] := hl
  refine lv_aload_n hx hb dX12_safe_0 rfl (lv_at hl 0 rfl) ?_
  refine lv_iconst (v := 0) hx hb dX12_safe_1 (by decide) ?_
  refine fs_RX12_143 hC hw 0 rfl rfl rfl (Nat.le_of_ble_eq_true rfl) dX12_safe_2 (fun H locs hw => ?_)
  have hw : kW γ A [(z, .inr (11, [.int 0, .int 0, .ref z2, .int 0, .int 0, .int 0, .int 0, .long 0, .int 0, .int 0, .ref z10, .ref z11, .ref z12, .ref z13, .ref z14, .ref z15, .ref z16, .ref z17, .ref z18, .ref z19, .int 0, .int 0, .ref z22, .ref z23, .ref z24, .ref z25, .ref z26, .ref z27, .ref z28, .ref z29, .ref z30, .ref z31, .ref z32, .ref z33, .int 0, .long 0, .ref z36, .ref z37, .ref z38, .ref z39, .ref z40, .ref z41, .ref z42, .ref z43, .ref z44, .ref z45, .ref z46, .ref z47, .ref z48, .int 0, .int 10, .int 0, .int 0, .int 0, .int 0, .ref z55, .ref z56, .int 0, .int 0, .ref z59, .ref z60, .ref z61, .int 0, .long 0])), (z10, .inl (γ.2.1 0, 10, .inl fa))] s H locs := hw
  refine lv_aload_n hx hb dX12_safe_5 rfl (lv_at hl 0 rfl) ?_
  refine lv_iload_n hx hb dX12_safe_6 rfl (lv_at hl 1 rfl) ?_
  refine k_V (wr := []) 1 gw_1557 gw_1559 gp_80 gw_15 gw_1560 hd_X12_isTenant hC hw (c_X12_isTenant γ l z z2 z10 z11 z12 z13 z14 z15 z16 z17 z18 z19 z22 z23 z24 z25 z26 z27 z28 z29 z30 z31 z32 z33 z36 z37 z38 z39 z40 z41 z42 z43 z44 z45 z46 z47 z48 z55 z56 z59 z60 z61 fa t ha0 ha1 ha2 ha3 ha4) ⟨by decide, by decide⟩ ⟨by decide, by decide⟩ hl.1 rfl 0 rfl rfl rfl (Nat.le_of_ble_eq_true rfl) [0, 1] [] rfl rfl rfl rfl (by decide) dX12_safe_7 (fun r w1 H locs hq hw => ?_)
  obtain ⟨rfl, rfl⟩ := hq
  have hw : kW γ A [(z, .inr (11, [.int 0, .int 0, .ref z2, .int 0, .int 0, .int 0, .int 0, .long 0, .int 0, .int 0, .ref z10, .ref z11, .ref z12, .ref z13, .ref z14, .ref z15, .ref z16, .ref z17, .ref z18, .ref z19, .int 0, .int 0, .ref z22, .ref z23, .ref z24, .ref z25, .ref z26, .ref z27, .ref z28, .ref z29, .ref z30, .ref z31, .ref z32, .ref z33, .int 0, .long 0, .ref z36, .ref z37, .ref z38, .ref z39, .ref z40, .ref z41, .ref z42, .ref z43, .ref z44, .ref z45, .ref z46, .ref z47, .ref z48, .int 0, .int 10, .int 0, .int 0, .int 0, .int 0, .ref z55, .ref z56, .int 0, .int 0, .ref z59, .ref z60, .ref z61, .int 0, .long 0])), (z10, .inl (γ.2.1 0, 10, .inl fa))] s H locs := hw
  refine W.eq (g2 := F0 m 10 ls [.int 0]) rfl ?_
  refine lv_if_ne (tgt := 15) hx hb dX12_safe_10 (by decide) (fun h => absurd rfl h) (fun _ => ?_)
  refine lv_iconst (v := (-1)) hx hb dX12_safe_13 (by decide) ?_
  exact k_iret hC hr hlocks hw [] rfl rfl ⟨rfl, rfl⟩ (by decide) (by decide) dX12_safe_14

set_option maxHeartbeats 4000000 in
set_option maxRecDepth 100000 in
theorem c_X12_ring (γ : kΓ) (l : Launch) (z : Nat) (z2 : Nat) (z10 : Nat) (z11 : Nat) (z12 : Nat) (z13 : Nat) (z14 : Nat) (z15 : Nat) (z16 : Nat) (z17 : Nat) (z18 : Nat) (z19 : Nat) (z22 : Nat) (z23 : Nat) (z24 : Nat) (z25 : Nat) (z26 : Nat) (z27 : Nat) (z28 : Nat) (z29 : Nat) (z30 : Nat) (z31 : Nat) (z32 : Nat) (z33 : Nat) (z36 : Nat) (z37 : Nat) (z38 : Nat) (z39 : Nat) (z40 : Nat) (z41 : Nat) (z42 : Nat) (z43 : Nat) (z44 : Nat) (z45 : Nat) (z46 : Nat) (z47 : Nat) (z48 : Nat) (z55 : Nat) (z56 : Nat) (z59 : Nat) (z60 : Nat) (z61 : Nat) (fa : Nat → Int32) (t : Int32) (ha0 : fa 0 = 0) (ha1 : fa 1 = 0) (ha2 : fa 2 = 10) (ha3 : fa 3 = 10) (ha4 : fa 4 = 3) : kM γ l yX12_ring cX12_ring 4 ((some .int)) ({ frames := 1, cells := 0, slots := 0, locals := 21 } : Room) [.ref z, .int t] [(z, .inr (11, [.int 0, .int 0, .ref z2, .int 0, .int 0, .int 0, .int 0, .long 0, .int 0, .int 0, .ref z10, .ref z11, .ref z12, .ref z13, .ref z14, .ref z15, .ref z16, .ref z17, .ref z18, .ref z19, .int 0, .int 0, .ref z22, .ref z23, .ref z24, .ref z25, .ref z26, .ref z27, .ref z28, .ref z29, .ref z30, .ref z31, .ref z32, .ref z33, .int 0, .long 0, .ref z36, .ref z37, .ref z38, .ref z39, .ref z40, .ref z41, .ref z42, .ref z43, .ref z44, .ref z45, .ref z46, .ref z47, .ref z48, .int 0, .int 10, .int 0, .int 0, .int 0, .int 0, .ref z55, .ref z56, .int 0, .int 0, .ref z59, .ref z60, .ref z61, .int 0, .long 0])), (z10, .inl (γ.2.1 0, 10, .inl fa))] (fun r w1 => r = some (.int (-1)) ∧ w1 = []) := by
  refine k_ofW (by decide) (Nat.le_of_ble_eq_true rfl) ?_
  intro p e s m below meth c A ls hC hr hlocks hname hw hl
  have hx := hC.1
  have hb := hC.2.1
  have hl : lv_has ls 4 [(0, .ref z), (1, .int t)] := hl
  refine lv_aload_n hx hb dX12_ring_0 rfl (lv_at hl 0 rfl) ?_
  refine lv_iconst (v := 0) hx hb dX12_ring_1 (by decide) ?_
  refine fs_RX12_143 hC hw 0 rfl rfl rfl (Nat.le_of_ble_eq_true rfl) dX12_ring_2 (fun H locs hw => ?_)
  have hw : kW γ A [(z, .inr (11, [.int 0, .int 0, .ref z2, .int 0, .int 0, .int 0, .int 0, .long 0, .int 0, .int 0, .ref z10, .ref z11, .ref z12, .ref z13, .ref z14, .ref z15, .ref z16, .ref z17, .ref z18, .ref z19, .int 0, .int 0, .ref z22, .ref z23, .ref z24, .ref z25, .ref z26, .ref z27, .ref z28, .ref z29, .ref z30, .ref z31, .ref z32, .ref z33, .int 0, .long 0, .ref z36, .ref z37, .ref z38, .ref z39, .ref z40, .ref z41, .ref z42, .ref z43, .ref z44, .ref z45, .ref z46, .ref z47, .ref z48, .int 0, .int 10, .int 0, .int 0, .int 0, .int 0, .ref z55, .ref z56, .int 0, .int 0, .ref z59, .ref z60, .ref z61, .int 0, .long 0])), (z10, .inl (γ.2.1 0, 10, .inl fa))] s H locs := hw
  refine lv_aload_n hx hb dX12_ring_5 rfl (lv_at hl 0 rfl) ?_
  refine lv_iload_n hx hb dX12_ring_6 rfl (lv_at hl 1 rfl) ?_
  refine k_V (wr := []) 1 gw_1549 gw_1551 gp_79 gw_15 gw_1552 hd_X12_isThought hC hw (c_X12_isThought γ l z z2 z10 z11 z12 z13 z14 z15 z16 z17 z18 z19 z22 z23 z24 z25 z26 z27 z28 z29 z30 z31 z32 z33 z36 z37 z38 z39 z40 z41 z42 z43 z44 z45 z46 z47 z48 z55 z56 z59 z60 z61 fa t ha0 ha1 ha2 ha3 ha4) ⟨by decide, by decide⟩ ⟨by decide, by decide⟩ hl.1 rfl 0 rfl rfl rfl (Nat.le_of_ble_eq_true rfl) [0, 1] [] rfl rfl rfl rfl (by decide) dX12_ring_7 (fun r w1 H locs hq hw => ?_)
  obtain ⟨rfl, rfl⟩ := hq
  have hw : kW γ A [(z, .inr (11, [.int 0, .int 0, .ref z2, .int 0, .int 0, .int 0, .int 0, .long 0, .int 0, .int 0, .ref z10, .ref z11, .ref z12, .ref z13, .ref z14, .ref z15, .ref z16, .ref z17, .ref z18, .ref z19, .int 0, .int 0, .ref z22, .ref z23, .ref z24, .ref z25, .ref z26, .ref z27, .ref z28, .ref z29, .ref z30, .ref z31, .ref z32, .ref z33, .int 0, .long 0, .ref z36, .ref z37, .ref z38, .ref z39, .ref z40, .ref z41, .ref z42, .ref z43, .ref z44, .ref z45, .ref z46, .ref z47, .ref z48, .int 0, .int 10, .int 0, .int 0, .int 0, .int 0, .ref z55, .ref z56, .int 0, .int 0, .ref z59, .ref z60, .ref z61, .int 0, .long 0])), (z10, .inl (γ.2.1 0, 10, .inl fa))] s H locs := hw
  refine W.eq (g2 := F0 m 10 ls [.int 0]) rfl ?_
  refine lv_if_ne (tgt := 15) hx hb dX12_ring_10 (by decide) (fun h => absurd rfl h) (fun _ => ?_)
  refine lv_iconst (v := (-1)) hx hb dX12_ring_13 (by decide) ?_
  exact k_iret hC hr hlocks hw [] rfl rfl ⟨rfl, rfl⟩ (by decide) (by decide) dX12_ring_14

set_option maxHeartbeats 4000000 in
set_option maxRecDepth 100000 in
theorem c_X12_dowry (γ : kΓ) (l : Launch) (z : Nat) (z2 : Nat) (z10 : Nat) (z11 : Nat) (z12 : Nat) (z13 : Nat) (z14 : Nat) (z15 : Nat) (z16 : Nat) (z17 : Nat) (z18 : Nat) (z19 : Nat) (z22 : Nat) (z23 : Nat) (z24 : Nat) (z25 : Nat) (z26 : Nat) (z27 : Nat) (z28 : Nat) (z29 : Nat) (z30 : Nat) (z31 : Nat) (z32 : Nat) (z33 : Nat) (z36 : Nat) (z37 : Nat) (z38 : Nat) (z39 : Nat) (z40 : Nat) (z41 : Nat) (z42 : Nat) (z43 : Nat) (z44 : Nat) (z45 : Nat) (z46 : Nat) (z47 : Nat) (z48 : Nat) (z55 : Nat) (z56 : Nat) (z59 : Nat) (z60 : Nat) (z61 : Nat) (fa : Nat → Int32) (t : Int32) (ha0 : fa 0 = 0) (ha1 : fa 1 = 0) (ha2 : fa 2 = 10) (ha3 : fa 3 = 10) (ha4 : fa 4 = 3) : kM γ l yX12_dowry cX12_dowry 2 ((some .int)) ({ frames := 1, cells := 0, slots := 0, locals := 21 } : Room) [.ref z, .int t] [(z, .inr (11, [.int 0, .int 0, .ref z2, .int 0, .int 0, .int 0, .int 0, .long 0, .int 0, .int 0, .ref z10, .ref z11, .ref z12, .ref z13, .ref z14, .ref z15, .ref z16, .ref z17, .ref z18, .ref z19, .int 0, .int 0, .ref z22, .ref z23, .ref z24, .ref z25, .ref z26, .ref z27, .ref z28, .ref z29, .ref z30, .ref z31, .ref z32, .ref z33, .int 0, .long 0, .ref z36, .ref z37, .ref z38, .ref z39, .ref z40, .ref z41, .ref z42, .ref z43, .ref z44, .ref z45, .ref z46, .ref z47, .ref z48, .int 0, .int 10, .int 0, .int 0, .int 0, .int 0, .ref z55, .ref z56, .int 0, .int 0, .ref z59, .ref z60, .ref z61, .int 0, .long 0])), (z10, .inl (γ.2.1 0, 10, .inl fa))] (fun r w1 => r = some (.int (-1)) ∧ w1 = []) := by
  refine k_ofW (by decide) (Nat.le_of_ble_eq_true rfl) ?_
  intro p e s m below meth c A ls hC hr hlocks hname hw hl
  have hx := hC.1
  have hb := hC.2.1
  have hl : lv_has ls 2 [(0, .ref z), (1, .int t)] := hl
  refine lv_aload_n hx hb dX12_dowry_0 rfl (lv_at hl 0 rfl) ?_
  refine lv_iconst (v := 0) hx hb dX12_dowry_1 (by decide) ?_
  refine fs_RX12_143 hC hw 0 rfl rfl rfl (Nat.le_of_ble_eq_true rfl) dX12_dowry_2 (fun H locs hw => ?_)
  have hw : kW γ A [(z, .inr (11, [.int 0, .int 0, .ref z2, .int 0, .int 0, .int 0, .int 0, .long 0, .int 0, .int 0, .ref z10, .ref z11, .ref z12, .ref z13, .ref z14, .ref z15, .ref z16, .ref z17, .ref z18, .ref z19, .int 0, .int 0, .ref z22, .ref z23, .ref z24, .ref z25, .ref z26, .ref z27, .ref z28, .ref z29, .ref z30, .ref z31, .ref z32, .ref z33, .int 0, .long 0, .ref z36, .ref z37, .ref z38, .ref z39, .ref z40, .ref z41, .ref z42, .ref z43, .ref z44, .ref z45, .ref z46, .ref z47, .ref z48, .int 0, .int 10, .int 0, .int 0, .int 0, .int 0, .ref z55, .ref z56, .int 0, .int 0, .ref z59, .ref z60, .ref z61, .int 0, .long 0])), (z10, .inl (γ.2.1 0, 10, .inl fa))] s H locs := hw
  refine lv_aload_n hx hb dX12_dowry_5 rfl (lv_at hl 0 rfl) ?_
  refine lv_iload_n hx hb dX12_dowry_6 rfl (lv_at hl 1 rfl) ?_
  refine k_V (wr := []) 1 gw_1557 gw_1559 gp_80 gw_15 gw_1560 hd_X12_isTenant hC hw (c_X12_isTenant γ l z z2 z10 z11 z12 z13 z14 z15 z16 z17 z18 z19 z22 z23 z24 z25 z26 z27 z28 z29 z30 z31 z32 z33 z36 z37 z38 z39 z40 z41 z42 z43 z44 z45 z46 z47 z48 z55 z56 z59 z60 z61 fa t ha0 ha1 ha2 ha3 ha4) ⟨by decide, by decide⟩ ⟨by decide, by decide⟩ hl.1 rfl 0 rfl rfl rfl (Nat.le_of_ble_eq_true rfl) [0, 1] [] rfl rfl rfl rfl (by decide) dX12_dowry_7 (fun r w1 H locs hq hw => ?_)
  obtain ⟨rfl, rfl⟩ := hq
  have hw : kW γ A [(z, .inr (11, [.int 0, .int 0, .ref z2, .int 0, .int 0, .int 0, .int 0, .long 0, .int 0, .int 0, .ref z10, .ref z11, .ref z12, .ref z13, .ref z14, .ref z15, .ref z16, .ref z17, .ref z18, .ref z19, .int 0, .int 0, .ref z22, .ref z23, .ref z24, .ref z25, .ref z26, .ref z27, .ref z28, .ref z29, .ref z30, .ref z31, .ref z32, .ref z33, .int 0, .long 0, .ref z36, .ref z37, .ref z38, .ref z39, .ref z40, .ref z41, .ref z42, .ref z43, .ref z44, .ref z45, .ref z46, .ref z47, .ref z48, .int 0, .int 10, .int 0, .int 0, .int 0, .int 0, .ref z55, .ref z56, .int 0, .int 0, .ref z59, .ref z60, .ref z61, .int 0, .long 0])), (z10, .inl (γ.2.1 0, 10, .inl fa))] s H locs := hw
  refine W.eq (g2 := F0 m 10 ls [.int 0]) rfl ?_
  refine lv_if_eq (tgt := 21) hx hb dX12_dowry_10 (by decide) (fun _ => ?_) (fun h => absurd (by decide) h)
  refine lv_iconst (v := (-1)) hx hb dX12_dowry_21 (by decide) ?_
  exact k_iret hC hr hlocks hw [] rfl rfl ⟨rfl, rfl⟩ (by decide) (by decide) dX12_dowry_22

set_option maxHeartbeats 4000000 in
set_option maxRecDepth 100000 in
theorem c_X12_ways (γ : kΓ) (l : Launch) (z : Nat) (z2 : Nat) (z10 : Nat) (z11 : Nat) (z12 : Nat) (z13 : Nat) (z14 : Nat) (z15 : Nat) (z16 : Nat) (z17 : Nat) (z18 : Nat) (z19 : Nat) (z22 : Nat) (z23 : Nat) (z24 : Nat) (z25 : Nat) (z26 : Nat) (z27 : Nat) (z28 : Nat) (z29 : Nat) (z30 : Nat) (z31 : Nat) (z32 : Nat) (z33 : Nat) (z36 : Nat) (z37 : Nat) (z38 : Nat) (z39 : Nat) (z40 : Nat) (z41 : Nat) (z42 : Nat) (z43 : Nat) (z44 : Nat) (z45 : Nat) (z46 : Nat) (z47 : Nat) (z48 : Nat) (z55 : Nat) (z56 : Nat) (z59 : Nat) (z60 : Nat) (z61 : Nat) (fa : Nat → Int32) (t : Int32) (u : Int32) (v : Int32) (ha0 : fa 0 = 0) (ha1 : fa 1 = 0) (ha2 : fa 2 = 10) (ha3 : fa 3 = 10) (ha4 : fa 4 = 3) : kM γ l yX12_ways cX12_ways 7 ((some .int)) ({ frames := 1, cells := 0, slots := 0, locals := 21 } : Room) [.ref z, .int t, .int u, .int v] [(z, .inr (11, [.int 0, .int 0, .ref z2, .int 0, .int 0, .int 0, .int 0, .long 0, .int 0, .int 0, .ref z10, .ref z11, .ref z12, .ref z13, .ref z14, .ref z15, .ref z16, .ref z17, .ref z18, .ref z19, .int 0, .int 0, .ref z22, .ref z23, .ref z24, .ref z25, .ref z26, .ref z27, .ref z28, .ref z29, .ref z30, .ref z31, .ref z32, .ref z33, .int 0, .long 0, .ref z36, .ref z37, .ref z38, .ref z39, .ref z40, .ref z41, .ref z42, .ref z43, .ref z44, .ref z45, .ref z46, .ref z47, .ref z48, .int 0, .int 10, .int 0, .int 0, .int 0, .int 0, .ref z55, .ref z56, .int 0, .int 0, .ref z59, .ref z60, .ref z61, .int 0, .long 0])), (z10, .inl (γ.2.1 0, 10, .inl fa))] (fun r w1 => r = some (.int (-1)) ∧ w1 = []) := by
  refine k_ofW (by decide) (Nat.le_of_ble_eq_true rfl) ?_
  intro p e s m below meth c A ls hC hr hlocks hname hw hl
  have hx := hC.1
  have hb := hC.2.1
  have hl : lv_has ls 7 [(0, .ref z), (1, .int t), (2, .int u), (3, .int v)] := hl
  refine lv_aload_n hx hb dX12_ways_0 rfl (lv_at hl 0 rfl) ?_
  refine lv_iconst (v := 0) hx hb dX12_ways_1 (by decide) ?_
  refine fs_RX12_143 hC hw 0 rfl rfl rfl (Nat.le_of_ble_eq_true rfl) dX12_ways_2 (fun H locs hw => ?_)
  have hw : kW γ A [(z, .inr (11, [.int 0, .int 0, .ref z2, .int 0, .int 0, .int 0, .int 0, .long 0, .int 0, .int 0, .ref z10, .ref z11, .ref z12, .ref z13, .ref z14, .ref z15, .ref z16, .ref z17, .ref z18, .ref z19, .int 0, .int 0, .ref z22, .ref z23, .ref z24, .ref z25, .ref z26, .ref z27, .ref z28, .ref z29, .ref z30, .ref z31, .ref z32, .ref z33, .int 0, .long 0, .ref z36, .ref z37, .ref z38, .ref z39, .ref z40, .ref z41, .ref z42, .ref z43, .ref z44, .ref z45, .ref z46, .ref z47, .ref z48, .int 0, .int 10, .int 0, .int 0, .int 0, .int 0, .ref z55, .ref z56, .int 0, .int 0, .ref z59, .ref z60, .ref z61, .int 0, .long 0])), (z10, .inl (γ.2.1 0, 10, .inl fa))] s H locs := hw
  refine lv_aload_n hx hb dX12_ways_5 rfl (lv_at hl 0 rfl) ?_
  refine lv_iload_n hx hb dX12_ways_6 rfl (lv_at hl 1 rfl) ?_
  refine k_V (wr := []) 1 gw_1557 gw_1559 gp_80 gw_15 gw_1560 hd_X12_isTenant hC hw (c_X12_isTenant γ l z z2 z10 z11 z12 z13 z14 z15 z16 z17 z18 z19 z22 z23 z24 z25 z26 z27 z28 z29 z30 z31 z32 z33 z36 z37 z38 z39 z40 z41 z42 z43 z44 z45 z46 z47 z48 z55 z56 z59 z60 z61 fa t ha0 ha1 ha2 ha3 ha4) ⟨by decide, by decide⟩ ⟨by decide, by decide⟩ hl.1 rfl 0 rfl rfl rfl (Nat.le_of_ble_eq_true rfl) [0, 1] [] rfl rfl rfl rfl (by decide) dX12_ways_7 (fun r w1 H locs hq hw => ?_)
  obtain ⟨rfl, rfl⟩ := hq
  have hw : kW γ A [(z, .inr (11, [.int 0, .int 0, .ref z2, .int 0, .int 0, .int 0, .int 0, .long 0, .int 0, .int 0, .ref z10, .ref z11, .ref z12, .ref z13, .ref z14, .ref z15, .ref z16, .ref z17, .ref z18, .ref z19, .int 0, .int 0, .ref z22, .ref z23, .ref z24, .ref z25, .ref z26, .ref z27, .ref z28, .ref z29, .ref z30, .ref z31, .ref z32, .ref z33, .int 0, .long 0, .ref z36, .ref z37, .ref z38, .ref z39, .ref z40, .ref z41, .ref z42, .ref z43, .ref z44, .ref z45, .ref z46, .ref z47, .ref z48, .int 0, .int 10, .int 0, .int 0, .int 0, .int 0, .ref z55, .ref z56, .int 0, .int 0, .ref z59, .ref z60, .ref z61, .int 0, .long 0])), (z10, .inl (γ.2.1 0, 10, .inl fa))] s H locs := hw
  refine W.eq (g2 := F0 m 10 ls [.int 0]) rfl ?_
  refine lv_if_eq (tgt := 31) hx hb dX12_ways_10 (by decide) (fun _ => ?_) (fun h => absurd (by decide) h)
  refine lv_iconst (v := (-1)) hx hb dX12_ways_31 (by decide) ?_
  exact k_iret hC hr hlocks hw [] rfl rfl ⟨rfl, rfl⟩ (by decide) (by decide) dX12_ways_32

set_option maxHeartbeats 4000000 in
set_option maxRecDepth 100000 in
theorem c_X12_guess (γ : kΓ) (l : Launch) (z : Nat) (z2 : Nat) (z10 : Nat) (z11 : Nat) (z12 : Nat) (z13 : Nat) (z14 : Nat) (z15 : Nat) (z16 : Nat) (z17 : Nat) (z18 : Nat) (z19 : Nat) (z22 : Nat) (z23 : Nat) (z24 : Nat) (z25 : Nat) (z26 : Nat) (z27 : Nat) (z28 : Nat) (z29 : Nat) (z30 : Nat) (z31 : Nat) (z32 : Nat) (z33 : Nat) (z36 : Nat) (z37 : Nat) (z38 : Nat) (z39 : Nat) (z40 : Nat) (z41 : Nat) (z42 : Nat) (z43 : Nat) (z44 : Nat) (z45 : Nat) (z46 : Nat) (z47 : Nat) (z48 : Nat) (z55 : Nat) (z56 : Nat) (z59 : Nat) (z60 : Nat) (z61 : Nat) (fa : Nat → Int32) (t : Int32) (u : Int32) (ha0 : fa 0 = 0) (ha1 : fa 1 = 0) (ha2 : fa 2 = 10) (ha3 : fa 3 = 10) (ha4 : fa 4 = 3) : kM γ l yX12_guess cX12_guess 3 ((some .boolean)) ({ frames := 1, cells := 0, slots := 0, locals := 21 } : Room) [.ref z, .int t, .int u] [(z, .inr (11, [.int 0, .int 0, .ref z2, .int 0, .int 0, .int 0, .int 0, .long 0, .int 0, .int 0, .ref z10, .ref z11, .ref z12, .ref z13, .ref z14, .ref z15, .ref z16, .ref z17, .ref z18, .ref z19, .int 0, .int 0, .ref z22, .ref z23, .ref z24, .ref z25, .ref z26, .ref z27, .ref z28, .ref z29, .ref z30, .ref z31, .ref z32, .ref z33, .int 0, .long 0, .ref z36, .ref z37, .ref z38, .ref z39, .ref z40, .ref z41, .ref z42, .ref z43, .ref z44, .ref z45, .ref z46, .ref z47, .ref z48, .int 0, .int 10, .int 0, .int 0, .int 0, .int 0, .ref z55, .ref z56, .int 0, .int 0, .ref z59, .ref z60, .ref z61, .int 0, .long 0])), (z10, .inl (γ.2.1 0, 10, .inl fa))] (fun r w1 => r = some (.int 0) ∧ w1 = []) := by
  refine k_ofW (by decide) (Nat.le_of_ble_eq_true rfl) ?_
  intro p e s m below meth c A ls hC hr hlocks hname hw hl
  have hx := hC.1
  have hb := hC.2.1
  have hl : lv_has ls 3 [(0, .ref z), (1, .int t), (2, .int u)] := hl
  refine lv_aload_n hx hb dX12_guess_0 rfl (lv_at hl 0 rfl) ?_
  refine lv_iconst (v := 0) hx hb dX12_guess_1 (by decide) ?_
  refine fs_RX12_143 hC hw 0 rfl rfl rfl (Nat.le_of_ble_eq_true rfl) dX12_guess_2 (fun H locs hw => ?_)
  have hw : kW γ A [(z, .inr (11, [.int 0, .int 0, .ref z2, .int 0, .int 0, .int 0, .int 0, .long 0, .int 0, .int 0, .ref z10, .ref z11, .ref z12, .ref z13, .ref z14, .ref z15, .ref z16, .ref z17, .ref z18, .ref z19, .int 0, .int 0, .ref z22, .ref z23, .ref z24, .ref z25, .ref z26, .ref z27, .ref z28, .ref z29, .ref z30, .ref z31, .ref z32, .ref z33, .int 0, .long 0, .ref z36, .ref z37, .ref z38, .ref z39, .ref z40, .ref z41, .ref z42, .ref z43, .ref z44, .ref z45, .ref z46, .ref z47, .ref z48, .int 0, .int 10, .int 0, .int 0, .int 0, .int 0, .ref z55, .ref z56, .int 0, .int 0, .ref z59, .ref z60, .ref z61, .int 0, .long 0])), (z10, .inl (γ.2.1 0, 10, .inl fa))] s H locs := hw
  refine lv_aload_n hx hb dX12_guess_5 rfl (lv_at hl 0 rfl) ?_
  refine lv_iload_n hx hb dX12_guess_6 rfl (lv_at hl 1 rfl) ?_
  refine k_V (wr := []) 1 gw_1549 gw_1551 gp_79 gw_15 gw_1552 hd_X12_isThought hC hw (c_X12_isThought γ l z z2 z10 z11 z12 z13 z14 z15 z16 z17 z18 z19 z22 z23 z24 z25 z26 z27 z28 z29 z30 z31 z32 z33 z36 z37 z38 z39 z40 z41 z42 z43 z44 z45 z46 z47 z48 z55 z56 z59 z60 z61 fa t ha0 ha1 ha2 ha3 ha4) ⟨by decide, by decide⟩ ⟨by decide, by decide⟩ hl.1 rfl 0 rfl rfl rfl (Nat.le_of_ble_eq_true rfl) [0, 1] [] rfl rfl rfl rfl (by decide) dX12_guess_7 (fun r w1 H locs hq hw => ?_)
  obtain ⟨rfl, rfl⟩ := hq
  have hw : kW γ A [(z, .inr (11, [.int 0, .int 0, .ref z2, .int 0, .int 0, .int 0, .int 0, .long 0, .int 0, .int 0, .ref z10, .ref z11, .ref z12, .ref z13, .ref z14, .ref z15, .ref z16, .ref z17, .ref z18, .ref z19, .int 0, .int 0, .ref z22, .ref z23, .ref z24, .ref z25, .ref z26, .ref z27, .ref z28, .ref z29, .ref z30, .ref z31, .ref z32, .ref z33, .int 0, .long 0, .ref z36, .ref z37, .ref z38, .ref z39, .ref z40, .ref z41, .ref z42, .ref z43, .ref z44, .ref z45, .ref z46, .ref z47, .ref z48, .int 0, .int 10, .int 0, .int 0, .int 0, .int 0, .ref z55, .ref z56, .int 0, .int 0, .ref z59, .ref z60, .ref z61, .int 0, .long 0])), (z10, .inl (γ.2.1 0, 10, .inl fa))] s H locs := hw
  refine W.eq (g2 := F0 m 10 ls [.int 0]) rfl ?_
  refine lv_if_eq (tgt := 24) hx hb dX12_guess_10 (by decide) (fun _ => ?_) (fun h => absurd (by decide) h)
  refine lv_iconst (v := 0) hx hb dX12_guess_24 (by decide) ?_
  exact k_zret hC hr hlocks rfl hw [] rfl rfl ⟨rfl, rfl⟩ (by decide) (by decide) dX12_guess_25

set_option maxHeartbeats 4000000 in
set_option maxRecDepth 100000 in
theorem c_X12_dead (γ : kΓ) (l : Launch) (z : Nat) (z2 : Nat) (z10 : Nat) (z11 : Nat) (z12 : Nat) (z13 : Nat) (z14 : Nat) (z15 : Nat) (z16 : Nat) (z17 : Nat) (z18 : Nat) (z19 : Nat) (z22 : Nat) (z23 : Nat) (z24 : Nat) (z25 : Nat) (z26 : Nat) (z27 : Nat) (z28 : Nat) (z29 : Nat) (z30 : Nat) (z31 : Nat) (z32 : Nat) (z33 : Nat) (z36 : Nat) (z37 : Nat) (z38 : Nat) (z39 : Nat) (z40 : Nat) (z41 : Nat) (z42 : Nat) (z43 : Nat) (z44 : Nat) (z45 : Nat) (z46 : Nat) (z47 : Nat) (z48 : Nat) (z55 : Nat) (z56 : Nat) (z59 : Nat) (z60 : Nat) (z61 : Nat) (fa : Nat → Int32) (ha0 : fa 0 = 0) (ha1 : fa 1 = 0) (ha2 : fa 2 = 10) (ha3 : fa 3 = 10) (ha4 : fa 4 = 3) : kM γ l yX12_dead cX12_dead 3 ((some .int)) ({ frames := 0, cells := 0, slots := 0, locals := 0 } : Room) [.ref z] [(z, .inr (11, [.int 0, .int 0, .ref z2, .int 0, .int 0, .int 0, .int 0, .long 0, .int 0, .int 0, .ref z10, .ref z11, .ref z12, .ref z13, .ref z14, .ref z15, .ref z16, .ref z17, .ref z18, .ref z19, .int 0, .int 0, .ref z22, .ref z23, .ref z24, .ref z25, .ref z26, .ref z27, .ref z28, .ref z29, .ref z30, .ref z31, .ref z32, .ref z33, .int 0, .long 0, .ref z36, .ref z37, .ref z38, .ref z39, .ref z40, .ref z41, .ref z42, .ref z43, .ref z44, .ref z45, .ref z46, .ref z47, .ref z48, .int 0, .int 10, .int 0, .int 0, .int 0, .int 0, .ref z55, .ref z56, .int 0, .int 0, .ref z59, .ref z60, .ref z61, .int 0, .long 0])), (z10, .inl (γ.2.1 0, 10, .inl fa))] (fun r w1 => r = some (.int 0) ∧ w1 = []) := by
  refine k_ofW (by decide) (Nat.le_of_ble_eq_true rfl) ?_
  intro p e s m below meth c A ls hC hr hlocks hname hw hl
  have hx := hC.1
  have hb := hC.2.1
  have hl : lv_has ls 3 [(0, .ref z)] := hl
  refine lv_aload_n hx hb dX12_dead_0 rfl (lv_at hl 0 rfl) ?_
  refine lv_iconst (v := 0) hx hb dX12_dead_1 (by decide) ?_
  refine fs_RX12_143 hC hw 0 rfl rfl rfl (Nat.le_of_ble_eq_true rfl) dX12_dead_2 (fun H locs hw => ?_)
  have hw : kW γ A [(z, .inr (11, [.int 0, .int 0, .ref z2, .int 0, .int 0, .int 0, .int 0, .long 0, .int 0, .int 0, .ref z10, .ref z11, .ref z12, .ref z13, .ref z14, .ref z15, .ref z16, .ref z17, .ref z18, .ref z19, .int 0, .int 0, .ref z22, .ref z23, .ref z24, .ref z25, .ref z26, .ref z27, .ref z28, .ref z29, .ref z30, .ref z31, .ref z32, .ref z33, .int 0, .long 0, .ref z36, .ref z37, .ref z38, .ref z39, .ref z40, .ref z41, .ref z42, .ref z43, .ref z44, .ref z45, .ref z46, .ref z47, .ref z48, .int 0, .int 10, .int 0, .int 0, .int 0, .int 0, .ref z55, .ref z56, .int 0, .int 0, .ref z59, .ref z60, .ref z61, .int 0, .long 0])), (z10, .inl (γ.2.1 0, 10, .inl fa))] s H locs := hw
  refine lv_iconst (v := 0) hx hb dX12_dead_5 (by decide) ?_
  refine lv_istore_n (lv' := [(1, .int 0), (0, .ref z)]) hx hb dX12_dead_6 rfl hl (by decide) rfl (fun ls hl => ?_)
  refine lv_iconst (v := 0) hx hb dX12_dead_7 (by decide) ?_
  refine lv_istore_n (lv' := [(2, .int 0), (1, .int 0), (0, .ref z)]) hx hb dX12_dead_8 rfl hl (by decide) rfl (fun ls hl => ?_)
  refine lv_iload_n hx hb dX12_dead_9 rfl (lv_at hl 0 rfl) ?_
  refine lv_aload_n hx hb dX12_dead_10 rfl (lv_at hl 2 rfl) ?_
  refine fg_RX12_13 hC hw 0 rfl rfl dX12_dead_11 ?_
  refine lv_iconst (v := 0) hx hb dX12_dead_14 (by decide) ?_
  refine k_iald hC hw 1 rfl (k_in0 (by decide)) dX12_dead_15 ?_
  refine lv_topi (fun x_1183 ex_1183 => ?_)
  obtain rfl : x_1183 = 0 := (show x_1183 = fa 0 from ex_1183).trans ha0
  refine lv_icmp_ge (tgt := 44) hx hb dX12_dead_16 (by decide) (fun _ => ?_) (fun h => absurd (by decide) h)
  refine lv_iload_n hx hb dX12_dead_44 rfl (lv_at hl 1 rfl) ?_
  exact k_iret hC hr hlocks hw [] rfl rfl ⟨rfl, rfl⟩ (by decide) (by decide) dX12_dead_45

set_option maxHeartbeats 4000000 in
set_option maxRecDepth 100000 in
theorem c_X12_poorest (γ : kΓ) (l : Launch) (z : Nat) (z2 : Nat) (z10 : Nat) (z11 : Nat) (z12 : Nat) (z13 : Nat) (z14 : Nat) (z15 : Nat) (z16 : Nat) (z17 : Nat) (z18 : Nat) (z19 : Nat) (z22 : Nat) (z23 : Nat) (z24 : Nat) (z25 : Nat) (z26 : Nat) (z27 : Nat) (z28 : Nat) (z29 : Nat) (z30 : Nat) (z31 : Nat) (z32 : Nat) (z33 : Nat) (z36 : Nat) (z37 : Nat) (z38 : Nat) (z39 : Nat) (z40 : Nat) (z41 : Nat) (z42 : Nat) (z43 : Nat) (z44 : Nat) (z45 : Nat) (z46 : Nat) (z47 : Nat) (z48 : Nat) (z55 : Nat) (z56 : Nat) (z59 : Nat) (z60 : Nat) (z61 : Nat) (fa : Nat → Int32) (ha0 : fa 0 = 0) (ha1 : fa 1 = 0) (ha2 : fa 2 = 10) (ha3 : fa 3 = 10) (ha4 : fa 4 = 3) : kM γ l yX12_poorest cX12_poorest 3 ((some .int)) ({ frames := 0, cells := 0, slots := 0, locals := 0 } : Room) [.ref z] [(z, .inr (11, [.int 0, .int 0, .ref z2, .int 0, .int 0, .int 0, .int 0, .long 0, .int 0, .int 0, .ref z10, .ref z11, .ref z12, .ref z13, .ref z14, .ref z15, .ref z16, .ref z17, .ref z18, .ref z19, .int 0, .int 0, .ref z22, .ref z23, .ref z24, .ref z25, .ref z26, .ref z27, .ref z28, .ref z29, .ref z30, .ref z31, .ref z32, .ref z33, .int 0, .long 0, .ref z36, .ref z37, .ref z38, .ref z39, .ref z40, .ref z41, .ref z42, .ref z43, .ref z44, .ref z45, .ref z46, .ref z47, .ref z48, .int 0, .int 10, .int 0, .int 0, .int 0, .int 0, .ref z55, .ref z56, .int 0, .int 0, .ref z59, .ref z60, .ref z61, .int 0, .long 0])), (z10, .inl (γ.2.1 0, 10, .inl fa))] (fun r w1 => r = some (.int (-1)) ∧ w1 = []) := by
  refine k_ofW (by decide) (Nat.le_of_ble_eq_true rfl) ?_
  intro p e s m below meth c A ls hC hr hlocks hname hw hl
  have hx := hC.1
  have hb := hC.2.1
  have hl : lv_has ls 3 [(0, .ref z)] := hl
  refine lv_aload_n hx hb dX12_poorest_0 rfl (lv_at hl 0 rfl) ?_
  refine lv_iconst (v := 0) hx hb dX12_poorest_1 (by decide) ?_
  refine fs_RX12_143 hC hw 0 rfl rfl rfl (Nat.le_of_ble_eq_true rfl) dX12_poorest_2 (fun H locs hw => ?_)
  have hw : kW γ A [(z, .inr (11, [.int 0, .int 0, .ref z2, .int 0, .int 0, .int 0, .int 0, .long 0, .int 0, .int 0, .ref z10, .ref z11, .ref z12, .ref z13, .ref z14, .ref z15, .ref z16, .ref z17, .ref z18, .ref z19, .int 0, .int 0, .ref z22, .ref z23, .ref z24, .ref z25, .ref z26, .ref z27, .ref z28, .ref z29, .ref z30, .ref z31, .ref z32, .ref z33, .int 0, .long 0, .ref z36, .ref z37, .ref z38, .ref z39, .ref z40, .ref z41, .ref z42, .ref z43, .ref z44, .ref z45, .ref z46, .ref z47, .ref z48, .int 0, .int 10, .int 0, .int 0, .int 0, .int 0, .ref z55, .ref z56, .int 0, .int 0, .ref z59, .ref z60, .ref z61, .int 0, .long 0])), (z10, .inl (γ.2.1 0, 10, .inl fa))] s H locs := hw
  refine lv_iconst (v := (-1)) hx hb dX12_poorest_5 (by decide) ?_
  refine lv_istore_n (lv' := [(1, .int (-1)), (0, .ref z)]) hx hb dX12_poorest_6 rfl hl (by decide) rfl (fun ls hl => ?_)
  refine lv_iconst (v := 0) hx hb dX12_poorest_7 (by decide) ?_
  refine lv_istore_n (lv' := [(2, .int 0), (1, .int (-1)), (0, .ref z)]) hx hb dX12_poorest_8 rfl hl (by decide) rfl (fun ls hl => ?_)
  refine lv_iload_n hx hb dX12_poorest_9 rfl (lv_at hl 0 rfl) ?_
  refine lv_aload_n hx hb dX12_poorest_10 rfl (lv_at hl 2 rfl) ?_
  refine fg_RX12_13 hC hw 0 rfl rfl dX12_poorest_11 ?_
  refine lv_iconst (v := 1) hx hb dX12_poorest_14 (by decide) ?_
  refine k_iald hC hw 1 rfl (k_in0 (by decide)) dX12_poorest_15 ?_
  refine lv_topi (fun x_1184 ex_1184 => ?_)
  obtain rfl : x_1184 = 0 := (show x_1184 = fa 1 from ex_1184).trans ha1
  refine lv_icmp_ge (tgt := 52) hx hb dX12_poorest_16 (by decide) (fun _ => ?_) (fun h => absurd (by decide) h)
  refine lv_iload_n hx hb dX12_poorest_52 rfl (lv_at hl 1 rfl) ?_
  exact k_iret hC hr hlocks hw [] rfl rfl ⟨rfl, rfl⟩ (by decide) (by decide) dX12_poorest_53

set_option maxHeartbeats 4000000 in
set_option maxRecDepth 100000 in
theorem c_X12_fitting (γ : kΓ) (l : Launch) (z : Nat) (z2 : Nat) (z10 : Nat) (z11 : Nat) (z12 : Nat) (z13 : Nat) (z14 : Nat) (z15 : Nat) (z16 : Nat) (z17 : Nat) (z18 : Nat) (z19 : Nat) (z22 : Nat) (z23 : Nat) (z24 : Nat) (z25 : Nat) (z26 : Nat) (z27 : Nat) (z28 : Nat) (z29 : Nat) (z30 : Nat) (z31 : Nat) (z32 : Nat) (z33 : Nat) (z36 : Nat) (z37 : Nat) (z38 : Nat) (z39 : Nat) (z40 : Nat) (z41 : Nat) (z42 : Nat) (z43 : Nat) (z44 : Nat) (z45 : Nat) (z46 : Nat) (z47 : Nat) (z48 : Nat) (z55 : Nat) (z56 : Nat) (z59 : Nat) (z60 : Nat) (z61 : Nat) (fa : Nat → Int32) (ha0 : fa 0 = 0) (ha1 : fa 1 = 0) (ha2 : fa 2 = 10) (ha3 : fa 3 = 10) (ha4 : fa 4 = 3) : kM γ l yX12_fitting cX12_fitting 5 ((some .int)) ({ frames := 0, cells := 0, slots := 0, locals := 0 } : Room) [.ref z] [(z, .inr (11, [.int 0, .int 0, .ref z2, .int 0, .int 0, .int 0, .int 0, .long 0, .int 0, .int 0, .ref z10, .ref z11, .ref z12, .ref z13, .ref z14, .ref z15, .ref z16, .ref z17, .ref z18, .ref z19, .int 0, .int 0, .ref z22, .ref z23, .ref z24, .ref z25, .ref z26, .ref z27, .ref z28, .ref z29, .ref z30, .ref z31, .ref z32, .ref z33, .int 0, .long 0, .ref z36, .ref z37, .ref z38, .ref z39, .ref z40, .ref z41, .ref z42, .ref z43, .ref z44, .ref z45, .ref z46, .ref z47, .ref z48, .int 0, .int 10, .int 0, .int 0, .int 0, .int 0, .ref z55, .ref z56, .int 0, .int 0, .ref z59, .ref z60, .ref z61, .int 0, .long 0])), (z10, .inl (γ.2.1 0, 10, .inl fa))] (fun r w1 => r = some (.int 0) ∧ w1 = [(z, .inr (11, [.int 0, .int 0, .ref z2, .int 0, .int 0, .int 0, .int 0, .long 0, .int 0, .int 0, .ref z10, .ref z11, .ref z12, .ref z13, .ref z14, .ref z15, .ref z16, .ref z17, .ref z18, .ref z19, .int 0, .int 0, .ref z22, .ref z23, .ref z24, .ref z25, .ref z26, .ref z27, .ref z28, .ref z29, .ref z30, .ref z31, .ref z32, .ref z33, .int 0, .long 0, .ref z36, .ref z37, .ref z38, .ref z39, .ref z40, .ref z41, .ref z42, .ref z43, .ref z44, .ref z45, .ref z46, .ref z47, .ref z48, .int 0, .int 10, .int 0, .int 0, .int 0, .int 0, .ref z55, .ref z56, .int 0, .int 0, .ref z59, .ref z60, .ref z61, .int 0, .long 0])), (z10, .inl (γ.2.1 0, 10, .inl fa))]) := by
  refine k_ofW (by decide) (Nat.le_of_ble_eq_true rfl) ?_
  intro p e s m below meth c A ls hC hr hlocks hname hw hl
  have hx := hC.1
  have hb := hC.2.1
  have hl : lv_has ls 5 [(0, .ref z)] := hl
  refine lv_iconst (v := 0) hx hb dX12_fitting_0 (by decide) ?_
  refine lv_istore_n (lv' := [(1, .int 0), (0, .ref z)]) hx hb dX12_fitting_1 rfl hl (by decide) rfl (fun ls hl => ?_)
  refine lv_iconst (v := 0) hx hb dX12_fitting_2 (by decide) ?_
  refine lv_istore_n (lv' := [(2, .int 0), (1, .int 0), (0, .ref z)]) hx hb dX12_fitting_3 rfl hl (by decide) rfl (fun ls hl => ?_)
  refine lv_iload_n hx hb dX12_fitting_4 rfl (lv_at hl 0 rfl) ?_
  refine lv_aload_n hx hb dX12_fitting_5 rfl (lv_at hl 2 rfl) ?_
  refine fg_RX12_13 hC hw 0 rfl rfl dX12_fitting_6 ?_
  refine lv_iconst (v := 0) hx hb dX12_fitting_9 (by decide) ?_
  refine k_iald hC hw 1 rfl (k_in0 (by decide)) dX12_fitting_10 ?_
  refine lv_topi (fun x_1185 ex_1185 => ?_)
  obtain rfl : x_1185 = 0 := (show x_1185 = fa 0 from ex_1185).trans ha0
  refine lv_icmp_ge (tgt := 101) hx hb dX12_fitting_11 (by decide) (fun _ => ?_) (fun h => absurd (by decide) h)
  refine lv_iload_n hx hb dX12_fitting_101 rfl (lv_at hl 1 rfl) ?_
  exact k_iret hC hr hlocks hw [0, 1] rfl rfl ⟨rfl, rfl⟩ (by decide) (by decide) dX12_fitting_102

set_option maxHeartbeats 4000000 in
set_option maxRecDepth 100000 in
theorem c_X12_fits (γ : kΓ) (l : Launch) (z : Nat) (z2 : Nat) (z10 : Nat) (z11 : Nat) (z12 : Nat) (z13 : Nat) (z14 : Nat) (z15 : Nat) (z16 : Nat) (z17 : Nat) (z18 : Nat) (z19 : Nat) (z22 : Nat) (z23 : Nat) (z24 : Nat) (z25 : Nat) (z26 : Nat) (z27 : Nat) (z28 : Nat) (z29 : Nat) (z30 : Nat) (z31 : Nat) (z32 : Nat) (z33 : Nat) (z36 : Nat) (z37 : Nat) (z38 : Nat) (z39 : Nat) (z40 : Nat) (z41 : Nat) (z42 : Nat) (z43 : Nat) (z44 : Nat) (z45 : Nat) (z46 : Nat) (z47 : Nat) (z48 : Nat) (z55 : Nat) (z56 : Nat) (z59 : Nat) (z60 : Nat) (z61 : Nat) (fa : Nat → Int32) (ha0 : fa 0 = 0) (ha1 : fa 1 = 0) (ha2 : fa 2 = 10) (ha3 : fa 3 = 10) (ha4 : fa 4 = 3) : kM γ l yX12_fits cX12_fits 1 ((some .int)) ({ frames := 1, cells := 0, slots := 0, locals := 24 } : Room) [.ref z] [(z, .inr (11, [.int 0, .int 0, .ref z2, .int 0, .int 0, .int 0, .int 0, .long 0, .int 0, .int 0, .ref z10, .ref z11, .ref z12, .ref z13, .ref z14, .ref z15, .ref z16, .ref z17, .ref z18, .ref z19, .int 0, .int 0, .ref z22, .ref z23, .ref z24, .ref z25, .ref z26, .ref z27, .ref z28, .ref z29, .ref z30, .ref z31, .ref z32, .ref z33, .int 0, .long 0, .ref z36, .ref z37, .ref z38, .ref z39, .ref z40, .ref z41, .ref z42, .ref z43, .ref z44, .ref z45, .ref z46, .ref z47, .ref z48, .int 0, .int 10, .int 0, .int 0, .int 0, .int 0, .ref z55, .ref z56, .int 0, .int 0, .ref z59, .ref z60, .ref z61, .int 0, .long 0])), (z10, .inl (γ.2.1 0, 10, .inl fa))] (fun r w1 => r = some (.int 0) ∧ w1 = []) := by
  refine k_ofW (by decide) (Nat.le_of_ble_eq_true rfl) ?_
  intro p e s m below meth c A ls hC hr hlocks hname hw hl
  have hx := hC.1
  have hb := hC.2.1
  have hl : lv_has ls 1 [(0, .ref z)] := hl
  refine lv_aload_n hx hb dX12_fits_0 rfl (lv_at hl 0 rfl) ?_
  refine lv_iconst (v := 0) hx hb dX12_fits_1 (by decide) ?_
  refine fs_RX12_143 hC hw 0 rfl rfl rfl (Nat.le_of_ble_eq_true rfl) dX12_fits_2 (fun H locs hw => ?_)
  have hw : kW γ A [(z, .inr (11, [.int 0, .int 0, .ref z2, .int 0, .int 0, .int 0, .int 0, .long 0, .int 0, .int 0, .ref z10, .ref z11, .ref z12, .ref z13, .ref z14, .ref z15, .ref z16, .ref z17, .ref z18, .ref z19, .int 0, .int 0, .ref z22, .ref z23, .ref z24, .ref z25, .ref z26, .ref z27, .ref z28, .ref z29, .ref z30, .ref z31, .ref z32, .ref z33, .int 0, .long 0, .ref z36, .ref z37, .ref z38, .ref z39, .ref z40, .ref z41, .ref z42, .ref z43, .ref z44, .ref z45, .ref z46, .ref z47, .ref z48, .int 0, .int 10, .int 0, .int 0, .int 0, .int 0, .ref z55, .ref z56, .int 0, .int 0, .ref z59, .ref z60, .ref z61, .int 0, .long 0])), (z10, .inl (γ.2.1 0, 10, .inl fa))] s H locs := hw
  refine lv_aload_n hx hb dX12_fits_5 rfl (lv_at hl 0 rfl) ?_
  refine k_V (wr := []) 0 gw_1764 gw_1766 gp_109 gw_15 gw_1767 hd_X12_fitting hC hw (c_X12_fitting γ l z z2 z10 z11 z12 z13 z14 z15 z16 z17 z18 z19 z22 z23 z24 z25 z26 z27 z28 z29 z30 z31 z32 z33 z36 z37 z38 z39 z40 z41 z42 z43 z44 z45 z46 z47 z48 z55 z56 z59 z60 z61 fa ha0 ha1 ha2 ha3 ha4) ⟨by decide, by decide⟩ ⟨by decide, by decide⟩ hl.1 rfl 0 rfl rfl rfl (Nat.le_of_ble_eq_true rfl) [0, 1] [] rfl rfl rfl rfl (by decide) dX12_fits_6 (fun r w1 H locs hq hw => ?_)
  obtain ⟨rfl, rfl⟩ := hq
  have hw : kW γ A [(z, .inr (11, [.int 0, .int 0, .ref z2, .int 0, .int 0, .int 0, .int 0, .long 0, .int 0, .int 0, .ref z10, .ref z11, .ref z12, .ref z13, .ref z14, .ref z15, .ref z16, .ref z17, .ref z18, .ref z19, .int 0, .int 0, .ref z22, .ref z23, .ref z24, .ref z25, .ref z26, .ref z27, .ref z28, .ref z29, .ref z30, .ref z31, .ref z32, .ref z33, .int 0, .long 0, .ref z36, .ref z37, .ref z38, .ref z39, .ref z40, .ref z41, .ref z42, .ref z43, .ref z44, .ref z45, .ref z46, .ref z47, .ref z48, .int 0, .int 10, .int 0, .int 0, .int 0, .int 0, .ref z55, .ref z56, .int 0, .int 0, .ref z59, .ref z60, .ref z61, .int 0, .long 0])), (z10, .inl (γ.2.1 0, 10, .inl fa))] s H locs := hw
  refine W.eq (g2 := F0 m 9 ls [.int 0]) rfl ?_
  exact k_iret hC hr hlocks hw [] rfl rfl ⟨rfl, rfl⟩ (by decide) (by decide) dX12_fits_9

set_option maxHeartbeats 4000000 in
set_option maxRecDepth 100000 in
theorem c_X12_bits0 (γ : kΓ) (l : Launch) : kM γ l yX12_bits cX12_bits 3 ((some .int)) ({ frames := 0, cells := 0, slots := 0, locals := 0 } : Room) [.int 0] [] (fun r w1 => r = some (.int 0) ∧ w1 = []) := by
  refine k_ofW (by decide) (Nat.le_of_ble_eq_true rfl) ?_
  intro p e s m below meth c A ls hC hr hlocks hname hw hl
  have hx := hC.1
  have hb := hC.2.1
  have hl : lv_has ls 3 [(0, .int 0)] := hl
  refine lv_iconst (v := 0) hx hb dX12_bits_0 (by decide) ?_
  refine lv_istore_n (lv' := [(1, .int 0), (0, .int 0)]) hx hb dX12_bits_1 rfl hl (by decide) rfl (fun ls hl => ?_)
  refine lv_iconst (v := 0) hx hb dX12_bits_2 (by decide) ?_
  refine lv_istore_n (lv' := [(2, .int 0), (1, .int 0), (0, .int 0)]) hx hb dX12_bits_3 rfl hl (by decide) rfl (fun ls hl => ?_)
  refine lv_iload_n hx hb dX12_bits_4 rfl (lv_at hl 0 rfl) ?_
  refine lv_bipush (v := 8) hx hb dX12_bits_5 (by decide) ?_
  refine lv_icmp_ge (tgt := 24) hx hb dX12_bits_7 (by decide) (fun h => absurd h (by decide)) (fun _ => ?_)
  refine lv_iload_n hx hb dX12_bits_10 rfl (lv_at hl 1 rfl) ?_
  refine lv_iload_n hx hb dX12_bits_11 rfl (lv_at hl 2 rfl) ?_
  refine lv_iload_n hx hb dX12_bits_12 rfl (lv_at hl 0 rfl) ?_
  refine lv_ishr hx hb dX12_bits_13 ?_
  refine lv_topi (fun x_1186 ex_1186 => ?_)
  obtain rfl : x_1186 = 0 := ex_1186.trans (by decide)
  refine lv_iconst (v := 1) hx hb dX12_bits_14 (by decide) ?_
  refine lv_iand hx hb dX12_bits_15 ?_
  refine lv_topi (fun x_1187 ex_1187 => ?_)
  obtain rfl : x_1187 = 0 := ex_1187.trans (by decide)
  refine lv_iadd hx hb dX12_bits_16 ?_
  refine lv_topi (fun x_1188 ex_1188 => ?_)
  obtain rfl : x_1188 = 0 := ex_1188.trans (by decide)
  refine lv_istore_n (lv' := [(1, .int 0), (2, .int 0), (0, .int 0)]) hx hb dX12_bits_17 rfl hl (by decide) rfl (fun ls hl => ?_)
  refine lv_iinc (v := 1) (lv' := [(2, .int 1), (1, .int 0), (0, .int 0)]) hx hb dX12_bits_18 hl (k := 1) rfl (by decide) (by decide) rfl (fun ls hl => ?_)
  refine lv_goto (tgt := 4) hx hb dX12_bits_21 (by decide) ?_
  refine lv_iload_n hx hb dX12_bits_4 rfl (lv_at hl 0 rfl) ?_
  refine lv_bipush (v := 8) hx hb dX12_bits_5 (by decide) ?_
  refine lv_icmp_ge (tgt := 24) hx hb dX12_bits_7 (by decide) (fun h => absurd h (by decide)) (fun _ => ?_)
  refine lv_iload_n hx hb dX12_bits_10 rfl (lv_at hl 1 rfl) ?_
  refine lv_iload_n hx hb dX12_bits_11 rfl (lv_at hl 2 rfl) ?_
  refine lv_iload_n hx hb dX12_bits_12 rfl (lv_at hl 0 rfl) ?_
  refine lv_ishr hx hb dX12_bits_13 ?_
  refine lv_topi (fun x_1189 ex_1189 => ?_)
  obtain rfl : x_1189 = 0 := ex_1189.trans (by decide)
  refine lv_iconst (v := 1) hx hb dX12_bits_14 (by decide) ?_
  refine lv_iand hx hb dX12_bits_15 ?_
  refine lv_topi (fun x_1190 ex_1190 => ?_)
  obtain rfl : x_1190 = 0 := ex_1190.trans (by decide)
  refine lv_iadd hx hb dX12_bits_16 ?_
  refine lv_topi (fun x_1191 ex_1191 => ?_)
  obtain rfl : x_1191 = 0 := ex_1191.trans (by decide)
  refine lv_istore_n (lv' := [(1, .int 0), (2, .int 1), (0, .int 0)]) hx hb dX12_bits_17 rfl hl (by decide) rfl (fun ls hl => ?_)
  refine lv_iinc (v := 2) (lv' := [(2, .int 2), (1, .int 0), (0, .int 0)]) hx hb dX12_bits_18 hl (k := 1) rfl (by decide) (by decide) rfl (fun ls hl => ?_)
  refine lv_goto (tgt := 4) hx hb dX12_bits_21 (by decide) ?_
  refine lv_iload_n hx hb dX12_bits_4 rfl (lv_at hl 0 rfl) ?_
  refine lv_bipush (v := 8) hx hb dX12_bits_5 (by decide) ?_
  refine lv_icmp_ge (tgt := 24) hx hb dX12_bits_7 (by decide) (fun h => absurd h (by decide)) (fun _ => ?_)
  refine lv_iload_n hx hb dX12_bits_10 rfl (lv_at hl 1 rfl) ?_
  refine lv_iload_n hx hb dX12_bits_11 rfl (lv_at hl 2 rfl) ?_
  refine lv_iload_n hx hb dX12_bits_12 rfl (lv_at hl 0 rfl) ?_
  refine lv_ishr hx hb dX12_bits_13 ?_
  refine lv_topi (fun x_1192 ex_1192 => ?_)
  obtain rfl : x_1192 = 0 := ex_1192.trans (by decide)
  refine lv_iconst (v := 1) hx hb dX12_bits_14 (by decide) ?_
  refine lv_iand hx hb dX12_bits_15 ?_
  refine lv_topi (fun x_1193 ex_1193 => ?_)
  obtain rfl : x_1193 = 0 := ex_1193.trans (by decide)
  refine lv_iadd hx hb dX12_bits_16 ?_
  refine lv_topi (fun x_1194 ex_1194 => ?_)
  obtain rfl : x_1194 = 0 := ex_1194.trans (by decide)
  refine lv_istore_n (lv' := [(1, .int 0), (2, .int 2), (0, .int 0)]) hx hb dX12_bits_17 rfl hl (by decide) rfl (fun ls hl => ?_)
  refine lv_iinc (v := 3) (lv' := [(2, .int 3), (1, .int 0), (0, .int 0)]) hx hb dX12_bits_18 hl (k := 1) rfl (by decide) (by decide) rfl (fun ls hl => ?_)
  refine lv_goto (tgt := 4) hx hb dX12_bits_21 (by decide) ?_
  refine lv_iload_n hx hb dX12_bits_4 rfl (lv_at hl 0 rfl) ?_
  refine lv_bipush (v := 8) hx hb dX12_bits_5 (by decide) ?_
  refine lv_icmp_ge (tgt := 24) hx hb dX12_bits_7 (by decide) (fun h => absurd h (by decide)) (fun _ => ?_)
  refine lv_iload_n hx hb dX12_bits_10 rfl (lv_at hl 1 rfl) ?_
  refine lv_iload_n hx hb dX12_bits_11 rfl (lv_at hl 2 rfl) ?_
  refine lv_iload_n hx hb dX12_bits_12 rfl (lv_at hl 0 rfl) ?_
  refine lv_ishr hx hb dX12_bits_13 ?_
  refine lv_topi (fun x_1195 ex_1195 => ?_)
  obtain rfl : x_1195 = 0 := ex_1195.trans (by decide)
  refine lv_iconst (v := 1) hx hb dX12_bits_14 (by decide) ?_
  refine lv_iand hx hb dX12_bits_15 ?_
  refine lv_topi (fun x_1196 ex_1196 => ?_)
  obtain rfl : x_1196 = 0 := ex_1196.trans (by decide)
  refine lv_iadd hx hb dX12_bits_16 ?_
  refine lv_topi (fun x_1197 ex_1197 => ?_)
  obtain rfl : x_1197 = 0 := ex_1197.trans (by decide)
  refine lv_istore_n (lv' := [(1, .int 0), (2, .int 3), (0, .int 0)]) hx hb dX12_bits_17 rfl hl (by decide) rfl (fun ls hl => ?_)
  refine lv_iinc (v := 4) (lv' := [(2, .int 4), (1, .int 0), (0, .int 0)]) hx hb dX12_bits_18 hl (k := 1) rfl (by decide) (by decide) rfl (fun ls hl => ?_)
  refine lv_goto (tgt := 4) hx hb dX12_bits_21 (by decide) ?_
  refine lv_iload_n hx hb dX12_bits_4 rfl (lv_at hl 0 rfl) ?_
  refine lv_bipush (v := 8) hx hb dX12_bits_5 (by decide) ?_
  refine lv_icmp_ge (tgt := 24) hx hb dX12_bits_7 (by decide) (fun h => absurd h (by decide)) (fun _ => ?_)
  refine lv_iload_n hx hb dX12_bits_10 rfl (lv_at hl 1 rfl) ?_
  refine lv_iload_n hx hb dX12_bits_11 rfl (lv_at hl 2 rfl) ?_
  refine lv_iload_n hx hb dX12_bits_12 rfl (lv_at hl 0 rfl) ?_
  refine lv_ishr hx hb dX12_bits_13 ?_
  refine lv_topi (fun x_1198 ex_1198 => ?_)
  obtain rfl : x_1198 = 0 := ex_1198.trans (by decide)
  refine lv_iconst (v := 1) hx hb dX12_bits_14 (by decide) ?_
  refine lv_iand hx hb dX12_bits_15 ?_
  refine lv_topi (fun x_1199 ex_1199 => ?_)
  obtain rfl : x_1199 = 0 := ex_1199.trans (by decide)
  refine lv_iadd hx hb dX12_bits_16 ?_
  refine lv_topi (fun x_1200 ex_1200 => ?_)
  obtain rfl : x_1200 = 0 := ex_1200.trans (by decide)
  refine lv_istore_n (lv' := [(1, .int 0), (2, .int 4), (0, .int 0)]) hx hb dX12_bits_17 rfl hl (by decide) rfl (fun ls hl => ?_)
  refine lv_iinc (v := 5) (lv' := [(2, .int 5), (1, .int 0), (0, .int 0)]) hx hb dX12_bits_18 hl (k := 1) rfl (by decide) (by decide) rfl (fun ls hl => ?_)
  refine lv_goto (tgt := 4) hx hb dX12_bits_21 (by decide) ?_
  refine lv_iload_n hx hb dX12_bits_4 rfl (lv_at hl 0 rfl) ?_
  refine lv_bipush (v := 8) hx hb dX12_bits_5 (by decide) ?_
  refine lv_icmp_ge (tgt := 24) hx hb dX12_bits_7 (by decide) (fun h => absurd h (by decide)) (fun _ => ?_)
  refine lv_iload_n hx hb dX12_bits_10 rfl (lv_at hl 1 rfl) ?_
  refine lv_iload_n hx hb dX12_bits_11 rfl (lv_at hl 2 rfl) ?_
  refine lv_iload_n hx hb dX12_bits_12 rfl (lv_at hl 0 rfl) ?_
  refine lv_ishr hx hb dX12_bits_13 ?_
  refine lv_topi (fun x_1201 ex_1201 => ?_)
  obtain rfl : x_1201 = 0 := ex_1201.trans (by decide)
  refine lv_iconst (v := 1) hx hb dX12_bits_14 (by decide) ?_
  refine lv_iand hx hb dX12_bits_15 ?_
  refine lv_topi (fun x_1202 ex_1202 => ?_)
  obtain rfl : x_1202 = 0 := ex_1202.trans (by decide)
  refine lv_iadd hx hb dX12_bits_16 ?_
  refine lv_topi (fun x_1203 ex_1203 => ?_)
  obtain rfl : x_1203 = 0 := ex_1203.trans (by decide)
  refine lv_istore_n (lv' := [(1, .int 0), (2, .int 5), (0, .int 0)]) hx hb dX12_bits_17 rfl hl (by decide) rfl (fun ls hl => ?_)
  refine lv_iinc (v := 6) (lv' := [(2, .int 6), (1, .int 0), (0, .int 0)]) hx hb dX12_bits_18 hl (k := 1) rfl (by decide) (by decide) rfl (fun ls hl => ?_)
  refine lv_goto (tgt := 4) hx hb dX12_bits_21 (by decide) ?_
  refine lv_iload_n hx hb dX12_bits_4 rfl (lv_at hl 0 rfl) ?_
  refine lv_bipush (v := 8) hx hb dX12_bits_5 (by decide) ?_
  refine lv_icmp_ge (tgt := 24) hx hb dX12_bits_7 (by decide) (fun h => absurd h (by decide)) (fun _ => ?_)
  refine lv_iload_n hx hb dX12_bits_10 rfl (lv_at hl 1 rfl) ?_
  refine lv_iload_n hx hb dX12_bits_11 rfl (lv_at hl 2 rfl) ?_
  refine lv_iload_n hx hb dX12_bits_12 rfl (lv_at hl 0 rfl) ?_
  refine lv_ishr hx hb dX12_bits_13 ?_
  refine lv_topi (fun x_1204 ex_1204 => ?_)
  obtain rfl : x_1204 = 0 := ex_1204.trans (by decide)
  refine lv_iconst (v := 1) hx hb dX12_bits_14 (by decide) ?_
  refine lv_iand hx hb dX12_bits_15 ?_
  refine lv_topi (fun x_1205 ex_1205 => ?_)
  obtain rfl : x_1205 = 0 := ex_1205.trans (by decide)
  refine lv_iadd hx hb dX12_bits_16 ?_
  refine lv_topi (fun x_1206 ex_1206 => ?_)
  obtain rfl : x_1206 = 0 := ex_1206.trans (by decide)
  refine lv_istore_n (lv' := [(1, .int 0), (2, .int 6), (0, .int 0)]) hx hb dX12_bits_17 rfl hl (by decide) rfl (fun ls hl => ?_)
  refine lv_iinc (v := 7) (lv' := [(2, .int 7), (1, .int 0), (0, .int 0)]) hx hb dX12_bits_18 hl (k := 1) rfl (by decide) (by decide) rfl (fun ls hl => ?_)
  refine lv_goto (tgt := 4) hx hb dX12_bits_21 (by decide) ?_
  refine lv_iload_n hx hb dX12_bits_4 rfl (lv_at hl 0 rfl) ?_
  refine lv_bipush (v := 8) hx hb dX12_bits_5 (by decide) ?_
  refine lv_icmp_ge (tgt := 24) hx hb dX12_bits_7 (by decide) (fun h => absurd h (by decide)) (fun _ => ?_)
  refine lv_iload_n hx hb dX12_bits_10 rfl (lv_at hl 1 rfl) ?_
  refine lv_iload_n hx hb dX12_bits_11 rfl (lv_at hl 2 rfl) ?_
  refine lv_iload_n hx hb dX12_bits_12 rfl (lv_at hl 0 rfl) ?_
  refine lv_ishr hx hb dX12_bits_13 ?_
  refine lv_topi (fun x_1207 ex_1207 => ?_)
  obtain rfl : x_1207 = 0 := ex_1207.trans (by decide)
  refine lv_iconst (v := 1) hx hb dX12_bits_14 (by decide) ?_
  refine lv_iand hx hb dX12_bits_15 ?_
  refine lv_topi (fun x_1208 ex_1208 => ?_)
  obtain rfl : x_1208 = 0 := ex_1208.trans (by decide)
  refine lv_iadd hx hb dX12_bits_16 ?_
  refine lv_topi (fun x_1209 ex_1209 => ?_)
  obtain rfl : x_1209 = 0 := ex_1209.trans (by decide)
  refine lv_istore_n (lv' := [(1, .int 0), (2, .int 7), (0, .int 0)]) hx hb dX12_bits_17 rfl hl (by decide) rfl (fun ls hl => ?_)
  refine lv_iinc (v := 8) (lv' := [(2, .int 8), (1, .int 0), (0, .int 0)]) hx hb dX12_bits_18 hl (k := 1) rfl (by decide) (by decide) rfl (fun ls hl => ?_)
  refine lv_goto (tgt := 4) hx hb dX12_bits_21 (by decide) ?_
  refine lv_iload_n hx hb dX12_bits_4 rfl (lv_at hl 0 rfl) ?_
  refine lv_bipush (v := 8) hx hb dX12_bits_5 (by decide) ?_
  refine lv_icmp_ge (tgt := 24) hx hb dX12_bits_7 (by decide) (fun _ => ?_) (fun h => absurd (by decide) h)
  refine lv_iload_n hx hb dX12_bits_24 rfl (lv_at hl 1 rfl) ?_
  exact k_iret hC hr hlocks hw [] rfl rfl ⟨rfl, rfl⟩ (by decide) (by decide) dX12_bits_25

set_option maxHeartbeats 4000000 in
set_option maxRecDepth 100000 in
theorem c_X12_ask (γ : kΓ) (l : Launch) (z : Nat) (z2 : Nat) (z10 : Nat) (z11 : Nat) (z12 : Nat) (z13 : Nat) (z14 : Nat) (z15 : Nat) (z16 : Nat) (z17 : Nat) (z18 : Nat) (z19 : Nat) (z22 : Nat) (z23 : Nat) (z24 : Nat) (z25 : Nat) (z26 : Nat) (z27 : Nat) (z28 : Nat) (z29 : Nat) (z30 : Nat) (z31 : Nat) (z32 : Nat) (z33 : Nat) (z36 : Nat) (z37 : Nat) (z38 : Nat) (z39 : Nat) (z40 : Nat) (z41 : Nat) (z42 : Nat) (z43 : Nat) (z44 : Nat) (z45 : Nat) (z46 : Nat) (z47 : Nat) (z48 : Nat) (z55 : Nat) (z56 : Nat) (z59 : Nat) (z60 : Nat) (z61 : Nat) (fa : Nat → Int32) (ha0 : fa 0 = 0) (ha1 : fa 1 = 0) (ha2 : fa 2 = 10) (ha3 : fa 3 = 10) (ha4 : fa 4 = 3) : kM γ l yX12_ask cX12_ask 7 ((some .int)) ({ frames := 1, cells := 0, slots := 0, locals := 24 } : Room) [.ref z] [(z, .inr (11, [.int 0, .int 0, .ref z2, .int 0, .int 0, .int 0, .int 0, .long 0, .int 0, .int 0, .ref z10, .ref z11, .ref z12, .ref z13, .ref z14, .ref z15, .ref z16, .ref z17, .ref z18, .ref z19, .int 0, .int 0, .ref z22, .ref z23, .ref z24, .ref z25, .ref z26, .ref z27, .ref z28, .ref z29, .ref z30, .ref z31, .ref z32, .ref z33, .int 0, .long 0, .ref z36, .ref z37, .ref z38, .ref z39, .ref z40, .ref z41, .ref z42, .ref z43, .ref z44, .ref z45, .ref z46, .ref z47, .ref z48, .int 0, .int 10, .int 0, .int 0, .int 0, .int 0, .ref z55, .ref z56, .int 0, .int 0, .ref z59, .ref z60, .ref z61, .int 0, .long 0])), (z10, .inl (γ.2.1 0, 10, .inl fa))] (fun r w1 => r = some (.int (-1)) ∧ w1 = []) := by
  refine k_ofW (by decide) (Nat.le_of_ble_eq_true rfl) ?_
  intro p e s m below meth c A ls hC hr hlocks hname hw hl
  have hx := hC.1
  have hb := hC.2.1
  have hl : lv_has ls 7 [(0, .ref z)] := hl
  refine lv_aload_n hx hb dX12_ask_0 rfl (lv_at hl 0 rfl) ?_
  refine lv_iconst (v := 0) hx hb dX12_ask_1 (by decide) ?_
  refine fs_RX12_143 hC hw 0 rfl rfl rfl (Nat.le_of_ble_eq_true rfl) dX12_ask_2 (fun H locs hw => ?_)
  have hw : kW γ A [(z, .inr (11, [.int 0, .int 0, .ref z2, .int 0, .int 0, .int 0, .int 0, .long 0, .int 0, .int 0, .ref z10, .ref z11, .ref z12, .ref z13, .ref z14, .ref z15, .ref z16, .ref z17, .ref z18, .ref z19, .int 0, .int 0, .ref z22, .ref z23, .ref z24, .ref z25, .ref z26, .ref z27, .ref z28, .ref z29, .ref z30, .ref z31, .ref z32, .ref z33, .int 0, .long 0, .ref z36, .ref z37, .ref z38, .ref z39, .ref z40, .ref z41, .ref z42, .ref z43, .ref z44, .ref z45, .ref z46, .ref z47, .ref z48, .int 0, .int 10, .int 0, .int 0, .int 0, .int 0, .ref z55, .ref z56, .int 0, .int 0, .ref z59, .ref z60, .ref z61, .int 0, .long 0])), (z10, .inl (γ.2.1 0, 10, .inl fa))] s H locs := hw
  refine lv_aload_n hx hb dX12_ask_5 rfl (lv_at hl 0 rfl) ?_
  refine k_V (wr := []) 0 gw_1764 gw_1766 gp_109 gw_15 gw_1767 hd_X12_fitting hC hw (c_X12_fitting γ l z z2 z10 z11 z12 z13 z14 z15 z16 z17 z18 z19 z22 z23 z24 z25 z26 z27 z28 z29 z30 z31 z32 z33 z36 z37 z38 z39 z40 z41 z42 z43 z44 z45 z46 z47 z48 z55 z56 z59 z60 z61 fa ha0 ha1 ha2 ha3 ha4) ⟨by decide, by decide⟩ ⟨by decide, by decide⟩ hl.1 rfl 0 rfl rfl rfl (Nat.le_of_ble_eq_true rfl) [0, 1] [] rfl rfl rfl rfl (by decide) dX12_ask_6 (fun r w1 H locs hq hw => ?_)
  obtain ⟨rfl, rfl⟩ := hq
  have hw : kW γ A [(z, .inr (11, [.int 0, .int 0, .ref z2, .int 0, .int 0, .int 0, .int 0, .long 0, .int 0, .int 0, .ref z10, .ref z11, .ref z12, .ref z13, .ref z14, .ref z15, .ref z16, .ref z17, .ref z18, .ref z19, .int 0, .int 0, .ref z22, .ref z23, .ref z24, .ref z25, .ref z26, .ref z27, .ref z28, .ref z29, .ref z30, .ref z31, .ref z32, .ref z33, .int 0, .long 0, .ref z36, .ref z37, .ref z38, .ref z39, .ref z40, .ref z41, .ref z42, .ref z43, .ref z44, .ref z45, .ref z46, .ref z47, .ref z48, .int 0, .int 10, .int 0, .int 0, .int 0, .int 0, .ref z55, .ref z56, .int 0, .int 0, .ref z59, .ref z60, .ref z61, .int 0, .long 0])), (z10, .inl (γ.2.1 0, 10, .inl fa))] s H locs := hw
  refine W.eq (g2 := F0 m 9 ls [.int 0]) rfl ?_
  refine lv_istore_n (lv' := [(1, .int 0), (0, .ref z)]) hx hb dX12_ask_9 rfl hl (by decide) rfl (fun ls hl => ?_)
  refine lv_iload_n hx hb dX12_ask_10 rfl (lv_at hl 0 rfl) ?_
  refine k_S (wr := [(z, .inr (11, [.int 0, .int 0, .ref z2, .int 0, .int 0, .int 0, .int 0, .long 0, .int 0, .int 0, .ref z10, .ref z11, .ref z12, .ref z13, .ref z14, .ref z15, .ref z16, .ref z17, .ref z18, .ref z19, .int 0, .int 0, .ref z22, .ref z23, .ref z24, .ref z25, .ref z26, .ref z27, .ref z28, .ref z29, .ref z30, .ref z31, .ref z32, .ref z33, .int 0, .long 0, .ref z36, .ref z37, .ref z38, .ref z39, .ref z40, .ref z41, .ref z42, .ref z43, .ref z44, .ref z45, .ref z46, .ref z47, .ref z48, .int 0, .int 10, .int 0, .int 0, .int 0, .int 0, .ref z55, .ref z56, .int 0, .int 0, .ref z59, .ref z60, .ref z61, .int 0, .long 0])), (z10, .inl (γ.2.1 0, 10, .inl fa))]) 1 gw_1705 gw_1706 gw_15 gw_1707 hd_X12_bits hC hw (c_X12_bits0 γ l) ⟨by decide, by decide⟩ ⟨by decide, by decide⟩ hl.1 rfl rfl (Nat.le_of_ble_eq_true rfl) [] [0, 1] rfl rfl rfl rfl (by decide) dX12_ask_11 (fun r w1 H locs hq hw => ?_)
  obtain ⟨rfl, rfl⟩ := hq
  have hw : kW γ A [(z, .inr (11, [.int 0, .int 0, .ref z2, .int 0, .int 0, .int 0, .int 0, .long 0, .int 0, .int 0, .ref z10, .ref z11, .ref z12, .ref z13, .ref z14, .ref z15, .ref z16, .ref z17, .ref z18, .ref z19, .int 0, .int 0, .ref z22, .ref z23, .ref z24, .ref z25, .ref z26, .ref z27, .ref z28, .ref z29, .ref z30, .ref z31, .ref z32, .ref z33, .int 0, .long 0, .ref z36, .ref z37, .ref z38, .ref z39, .ref z40, .ref z41, .ref z42, .ref z43, .ref z44, .ref z45, .ref z46, .ref z47, .ref z48, .int 0, .int 10, .int 0, .int 0, .int 0, .int 0, .ref z55, .ref z56, .int 0, .int 0, .ref z59, .ref z60, .ref z61, .int 0, .long 0])), (z10, .inl (γ.2.1 0, 10, .inl fa))] s H locs := hw
  refine W.eq (g2 := F0 m 14 ls [.int 0]) rfl ?_
  refine lv_istore_n (lv' := [(2, .int 0), (1, .int 0), (0, .ref z)]) hx hb dX12_ask_14 rfl hl (by decide) rfl (fun ls hl => ?_)
  refine lv_iconst (v := (-1)) hx hb dX12_ask_15 (by decide) ?_
  refine lv_istore_n (lv' := [(3, .int (-1)), (2, .int 0), (1, .int 0), (0, .ref z)]) hx hb dX12_ask_16 rfl hl (by decide) rfl (fun ls hl => ?_)
  refine lv_iconst (v := 0) hx hb dX12_ask_17 (by decide) ?_
  refine lv_istore (lv' := [(4, .int 0), (3, .int (-1)), (2, .int 0), (1, .int 0), (0, .ref z)]) hx hb dX12_ask_18 hl (by decide) rfl (fun ls hl => ?_)
  refine lv_iload hx hb dX12_ask_20 (lv_at hl 0 rfl) ?_
  refine lv_aload_n hx hb dX12_ask_22 rfl (lv_at hl 4 rfl) ?_
  refine fg_RX12_13 hC hw 0 rfl rfl dX12_ask_23 ?_
  refine lv_iconst (v := 0) hx hb dX12_ask_26 (by decide) ?_
  refine k_iald hC hw 1 rfl (k_in0 (by decide)) dX12_ask_27 ?_
  refine lv_topi (fun x_1210 ex_1210 => ?_)
  obtain rfl : x_1210 = 0 := (show x_1210 = fa 0 from ex_1210).trans ha0
  refine lv_icmp_ge (tgt := 125) hx hb dX12_ask_28 (by decide) (fun _ => ?_) (fun h => absurd (by decide) h)
  refine lv_iload_n hx hb dX12_ask_125 rfl (lv_at hl 1 rfl) ?_
  exact k_iret hC hr hlocks hw [] rfl rfl ⟨rfl, rfl⟩ (by decide) (by decide) dX12_ask_126

set_option maxHeartbeats 4000000 in
set_option maxRecDepth 100000 in
theorem c_X12_lacking (γ : kΓ) (l : Launch) (z : Nat) (z2 : Nat) (z10 : Nat) (z11 : Nat) (z12 : Nat) (z13 : Nat) (z14 : Nat) (z15 : Nat) (z16 : Nat) (z17 : Nat) (z18 : Nat) (z19 : Nat) (z22 : Nat) (z23 : Nat) (z24 : Nat) (z25 : Nat) (z26 : Nat) (z27 : Nat) (z28 : Nat) (z29 : Nat) (z30 : Nat) (z31 : Nat) (z32 : Nat) (z33 : Nat) (z36 : Nat) (z37 : Nat) (z38 : Nat) (z39 : Nat) (z40 : Nat) (z41 : Nat) (z42 : Nat) (z43 : Nat) (z44 : Nat) (z45 : Nat) (z46 : Nat) (z47 : Nat) (z48 : Nat) (z55 : Nat) (z56 : Nat) (z59 : Nat) (z60 : Nat) (z61 : Nat) (fa : Nat → Int32) (ha0 : fa 0 = 0) (ha1 : fa 1 = 0) (ha2 : fa 2 = 10) (ha3 : fa 3 = 10) (ha4 : fa 4 = 3) : kM γ l yX12_lacking cX12_lacking 3 ((some .int)) ({ frames := 0, cells := 0, slots := 0, locals := 0 } : Room) [.ref z] [(z, .inr (11, [.int 0, .int 0, .ref z2, .int 0, .int 0, .int 0, .int 0, .long 0, .int 0, .int 0, .ref z10, .ref z11, .ref z12, .ref z13, .ref z14, .ref z15, .ref z16, .ref z17, .ref z18, .ref z19, .int 0, .int 0, .ref z22, .ref z23, .ref z24, .ref z25, .ref z26, .ref z27, .ref z28, .ref z29, .ref z30, .ref z31, .ref z32, .ref z33, .int 0, .long 0, .ref z36, .ref z37, .ref z38, .ref z39, .ref z40, .ref z41, .ref z42, .ref z43, .ref z44, .ref z45, .ref z46, .ref z47, .ref z48, .int 0, .int 10, .int 0, .int 0, .int 0, .int 0, .ref z55, .ref z56, .int 0, .int 0, .ref z59, .ref z60, .ref z61, .int 0, .long 0])), (z10, .inl (γ.2.1 0, 10, .inl fa))] (fun r w1 => r = some (.int 7) ∧ w1 = [(z, .inr (11, [.int 0, .int 0, .ref z2, .int 0, .int 0, .int 0, .int 0, .long 0, .int 0, .int 0, .ref z10, .ref z11, .ref z12, .ref z13, .ref z14, .ref z15, .ref z16, .ref z17, .ref z18, .ref z19, .int 0, .int 0, .ref z22, .ref z23, .ref z24, .ref z25, .ref z26, .ref z27, .ref z28, .ref z29, .ref z30, .ref z31, .ref z32, .ref z33, .int 0, .long 0, .ref z36, .ref z37, .ref z38, .ref z39, .ref z40, .ref z41, .ref z42, .ref z43, .ref z44, .ref z45, .ref z46, .ref z47, .ref z48, .int 0, .int 10, .int 0, .int 0, .int 0, .int 0, .ref z55, .ref z56, .int 0, .int 0, .ref z59, .ref z60, .ref z61, .int 0, .long 0])), (z10, .inl (γ.2.1 0, 10, .inl fa))]) := by
  refine k_ofW (by decide) (Nat.le_of_ble_eq_true rfl) ?_
  intro p e s m below meth c A ls hC hr hlocks hname hw hl
  have hx := hC.1
  have hb := hC.2.1
  have hl : lv_has ls 3 [(0, .ref z)] := hl
  refine lv_iconst (v := 1) hx hb dX12_lacking_0 (by decide) ?_
  refine lv_aload_n hx hb dX12_lacking_1 rfl (lv_at hl 0 rfl) ?_
  refine fg_RX12_13 hC hw 0 rfl rfl dX12_lacking_2 ?_
  refine lv_iconst (v := 4) hx hb dX12_lacking_5 (by decide) ?_
  refine k_iald hC hw 1 rfl (k_in0 (by decide)) dX12_lacking_6 ?_
  refine lv_topi (fun x_1211 ex_1211 => ?_)
  obtain rfl : x_1211 = 3 := (show x_1211 = fa 4 from ex_1211).trans ha4
  refine lv_ishl hx hb dX12_lacking_7 ?_
  refine lv_topi (fun x_1212 ex_1212 => ?_)
  obtain rfl : x_1212 = 8 := ex_1212.trans (by decide)
  refine lv_iconst (v := 1) hx hb dX12_lacking_8 (by decide) ?_
  refine lv_isub hx hb dX12_lacking_9 ?_
  refine lv_topi (fun x_1213 ex_1213 => ?_)
  obtain rfl : x_1213 = 7 := ex_1213.trans (by decide)
  refine lv_istore_n (lv' := [(1, .int 7), (0, .ref z)]) hx hb dX12_lacking_10 rfl hl (by decide) rfl (fun ls hl => ?_)
  refine lv_iconst (v := 0) hx hb dX12_lacking_11 (by decide) ?_
  refine lv_istore_n (lv' := [(2, .int 0), (1, .int 7), (0, .ref z)]) hx hb dX12_lacking_12 rfl hl (by decide) rfl (fun ls hl => ?_)
  refine lv_iload_n hx hb dX12_lacking_13 rfl (lv_at hl 0 rfl) ?_
  refine lv_aload_n hx hb dX12_lacking_14 rfl (lv_at hl 2 rfl) ?_
  refine fg_RX12_13 hC hw 0 rfl rfl dX12_lacking_15 ?_
  refine lv_iconst (v := 0) hx hb dX12_lacking_18 (by decide) ?_
  refine k_iald hC hw 1 rfl (k_in0 (by decide)) dX12_lacking_19 ?_
  refine lv_topi (fun x_1214 ex_1214 => ?_)
  obtain rfl : x_1214 = 0 := (show x_1214 = fa 0 from ex_1214).trans ha0
  refine lv_icmp_ge (tgt := 65) hx hb dX12_lacking_20 (by decide) (fun _ => ?_) (fun h => absurd (by decide) h)
  refine lv_iload_n hx hb dX12_lacking_65 rfl (lv_at hl 1 rfl) ?_
  exact k_iret hC hr hlocks hw [0, 1] rfl rfl ⟨rfl, rfl⟩ (by decide) (by decide) dX12_lacking_66

set_option maxHeartbeats 4000000 in
set_option maxRecDepth 100000 in
theorem c_X12_lacks (γ : kΓ) (l : Launch) (z : Nat) (z2 : Nat) (z10 : Nat) (z11 : Nat) (z12 : Nat) (z13 : Nat) (z14 : Nat) (z15 : Nat) (z16 : Nat) (z17 : Nat) (z18 : Nat) (z19 : Nat) (z22 : Nat) (z23 : Nat) (z24 : Nat) (z25 : Nat) (z26 : Nat) (z27 : Nat) (z28 : Nat) (z29 : Nat) (z30 : Nat) (z31 : Nat) (z32 : Nat) (z33 : Nat) (z36 : Nat) (z37 : Nat) (z38 : Nat) (z39 : Nat) (z40 : Nat) (z41 : Nat) (z42 : Nat) (z43 : Nat) (z44 : Nat) (z45 : Nat) (z46 : Nat) (z47 : Nat) (z48 : Nat) (z55 : Nat) (z56 : Nat) (z59 : Nat) (z60 : Nat) (z61 : Nat) (fa : Nat → Int32) (ha0 : fa 0 = 0) (ha1 : fa 1 = 0) (ha2 : fa 2 = 10) (ha3 : fa 3 = 10) (ha4 : fa 4 = 3) : kM γ l yX12_lacks cX12_lacks 1 ((some .int)) ({ frames := 1, cells := 0, slots := 0, locals := 22 } : Room) [.ref z] [(z, .inr (11, [.int 0, .int 0, .ref z2, .int 0, .int 0, .int 0, .int 0, .long 0, .int 0, .int 0, .ref z10, .ref z11, .ref z12, .ref z13, .ref z14, .ref z15, .ref z16, .ref z17, .ref z18, .ref z19, .int 0, .int 0, .ref z22, .ref z23, .ref z24, .ref z25, .ref z26, .ref z27, .ref z28, .ref z29, .ref z30, .ref z31, .ref z32, .ref z33, .int 0, .long 0, .ref z36, .ref z37, .ref z38, .ref z39, .ref z40, .ref z41, .ref z42, .ref z43, .ref z44, .ref z45, .ref z46, .ref z47, .ref z48, .int 0, .int 10, .int 0, .int 0, .int 0, .int 0, .ref z55, .ref z56, .int 0, .int 0, .ref z59, .ref z60, .ref z61, .int 0, .long 0])), (z10, .inl (γ.2.1 0, 10, .inl fa))] (fun r w1 => r = some (.int 7) ∧ w1 = []) := by
  refine k_ofW (by decide) (Nat.le_of_ble_eq_true rfl) ?_
  intro p e s m below meth c A ls hC hr hlocks hname hw hl
  have hx := hC.1
  have hb := hC.2.1
  have hl : lv_has ls 1 [(0, .ref z)] := hl
  refine lv_aload_n hx hb dX12_lacks_0 rfl (lv_at hl 0 rfl) ?_
  refine lv_iconst (v := 0) hx hb dX12_lacks_1 (by decide) ?_
  refine fs_RX12_143 hC hw 0 rfl rfl rfl (Nat.le_of_ble_eq_true rfl) dX12_lacks_2 (fun H locs hw => ?_)
  have hw : kW γ A [(z, .inr (11, [.int 0, .int 0, .ref z2, .int 0, .int 0, .int 0, .int 0, .long 0, .int 0, .int 0, .ref z10, .ref z11, .ref z12, .ref z13, .ref z14, .ref z15, .ref z16, .ref z17, .ref z18, .ref z19, .int 0, .int 0, .ref z22, .ref z23, .ref z24, .ref z25, .ref z26, .ref z27, .ref z28, .ref z29, .ref z30, .ref z31, .ref z32, .ref z33, .int 0, .long 0, .ref z36, .ref z37, .ref z38, .ref z39, .ref z40, .ref z41, .ref z42, .ref z43, .ref z44, .ref z45, .ref z46, .ref z47, .ref z48, .int 0, .int 10, .int 0, .int 0, .int 0, .int 0, .ref z55, .ref z56, .int 0, .int 0, .ref z59, .ref z60, .ref z61, .int 0, .long 0])), (z10, .inl (γ.2.1 0, 10, .inl fa))] s H locs := hw
  refine lv_aload_n hx hb dX12_lacks_5 rfl (lv_at hl 0 rfl) ?_
  refine k_V (wr := []) 0 gw_1712 gw_1714 gp_104 gw_15 gw_1715 hd_X12_lacking hC hw (c_X12_lacking γ l z z2 z10 z11 z12 z13 z14 z15 z16 z17 z18 z19 z22 z23 z24 z25 z26 z27 z28 z29 z30 z31 z32 z33 z36 z37 z38 z39 z40 z41 z42 z43 z44 z45 z46 z47 z48 z55 z56 z59 z60 z61 fa ha0 ha1 ha2 ha3 ha4) ⟨by decide, by decide⟩ ⟨by decide, by decide⟩ hl.1 rfl 0 rfl rfl rfl (Nat.le_of_ble_eq_true rfl) [0, 1] [] rfl rfl rfl rfl (by decide) dX12_lacks_6 (fun r w1 H locs hq hw => ?_)
  obtain ⟨rfl, rfl⟩ := hq
  have hw : kW γ A [(z, .inr (11, [.int 0, .int 0, .ref z2, .int 0, .int 0, .int 0, .int 0, .long 0, .int 0, .int 0, .ref z10, .ref z11, .ref z12, .ref z13, .ref z14, .ref z15, .ref z16, .ref z17, .ref z18, .ref z19, .int 0, .int 0, .ref z22, .ref z23, .ref z24, .ref z25, .ref z26, .ref z27, .ref z28, .ref z29, .ref z30, .ref z31, .ref z32, .ref z33, .int 0, .long 0, .ref z36, .ref z37, .ref z38, .ref z39, .ref z40, .ref z41, .ref z42, .ref z43, .ref z44, .ref z45, .ref z46, .ref z47, .ref z48, .int 0, .int 10, .int 0, .int 0, .int 0, .int 0, .ref z55, .ref z56, .int 0, .int 0, .ref z59, .ref z60, .ref z61, .int 0, .long 0])), (z10, .inl (γ.2.1 0, 10, .inl fa))] s H locs := hw
  refine W.eq (g2 := F0 m 9 ls [.int 7]) rfl ?_
  exact k_iret hC hr hlocks hw [] rfl rfl ⟨rfl, rfl⟩ (by decide) (by decide) dX12_lacks_9

set_option maxHeartbeats 4000000 in
set_option maxRecDepth 100000 in
theorem c_X12_whoRan (γ : kΓ) (l : Launch) (z : Nat) (z2 : Nat) (z10 : Nat) (z11 : Nat) (z12 : Nat) (z13 : Nat) (z14 : Nat) (z15 : Nat) (z16 : Nat) (z17 : Nat) (z18 : Nat) (z19 : Nat) (z22 : Nat) (z23 : Nat) (z24 : Nat) (z25 : Nat) (z26 : Nat) (z27 : Nat) (z28 : Nat) (z29 : Nat) (z30 : Nat) (z31 : Nat) (z32 : Nat) (z33 : Nat) (z36 : Nat) (z37 : Nat) (z38 : Nat) (z39 : Nat) (z40 : Nat) (z41 : Nat) (z42 : Nat) (z43 : Nat) (z44 : Nat) (z45 : Nat) (z46 : Nat) (z47 : Nat) (z48 : Nat) (z55 : Nat) (z56 : Nat) (z59 : Nat) (z60 : Nat) (z61 : Nat) (n0 : Int32) (n1 : Int32) (n3 : Int32) (n4 : Int32) (n5 : Int32) (n6 : Int32) (n7 : Int64) (n8 : Int32) (n9 : Int32) (n20 : Int32) (n21 : Int32) (n34 : Int32) (n35 : Int64) (n49 : Int32) (n50 : Int32) (n51 : Int32) (n52 : Int32) (n53 : Int32) (n54 : Int32) (n57 : Int32) (n58 : Int32) (n62 : Int32) (n63 : Int64) (fa : Nat → Int32) (ha0 : fa 0 = 0) (ha1 : fa 1 = 0) (ha2 : fa 2 = 10) (ha3 : fa 3 = 10) (ha4 : fa 4 = 3) : kM γ l yX12_whoRan cX12_whoRan 3 ((some .int)) ({ frames := 0, cells := 0, slots := 0, locals := 0 } : Room) [.ref z] [(z, .inr (11, [.int n0, .int n1, .ref z2, .int n3, .int n4, .int n5, .int n6, .long n7, .int n8, .int n9, .ref z10, .ref z11, .ref z12, .ref z13, .ref z14, .ref z15, .ref z16, .ref z17, .ref z18, .ref z19, .int n20, .int n21, .ref z22, .ref z23, .ref z24, .ref z25, .ref z26, .ref z27, .ref z28, .ref z29, .ref z30, .ref z31, .ref z32, .ref z33, .int n34, .long n35, .ref z36, .ref z37, .ref z38, .ref z39, .ref z40, .ref z41, .ref z42, .ref z43, .ref z44, .ref z45, .ref z46, .ref z47, .ref z48, .int n49, .int n50, .int n51, .int n52, .int n53, .int n54, .ref z55, .ref z56, .int n57, .int n58, .ref z59, .ref z60, .ref z61, .int n62, .long n63])), (z10, .inl (γ.2.1 0, 10, .inl fa))] (fun r w1 => r = some (.int 0) ∧ w1 = [(z, .inr (11, [.int n0, .int n1, .ref z2, .int n3, .int n4, .int n5, .int n6, .long n7, .int n8, .int n9, .ref z10, .ref z11, .ref z12, .ref z13, .ref z14, .ref z15, .ref z16, .ref z17, .ref z18, .ref z19, .int n20, .int n21, .ref z22, .ref z23, .ref z24, .ref z25, .ref z26, .ref z27, .ref z28, .ref z29, .ref z30, .ref z31, .ref z32, .ref z33, .int n34, .long n35, .ref z36, .ref z37, .ref z38, .ref z39, .ref z40, .ref z41, .ref z42, .ref z43, .ref z44, .ref z45, .ref z46, .ref z47, .ref z48, .int n49, .int n50, .int n51, .int n52, .int n53, .int n54, .ref z55, .ref z56, .int n57, .int n58, .ref z59, .ref z60, .ref z61, .int n62, .long n63])), (z10, .inl (γ.2.1 0, 10, .inl fa))]) := by
  refine k_ofW (by decide) (Nat.le_of_ble_eq_true rfl) ?_
  intro p e s m below meth c A ls hC hr hlocks hname hw hl
  have hx := hC.1
  have hb := hC.2.1
  have hl : lv_has ls 3 [(0, .ref z)] := hl
  refine lv_iconst (v := 0) hx hb dX12_whoRan_0 (by decide) ?_
  refine lv_istore_n (lv' := [(1, .int 0), (0, .ref z)]) hx hb dX12_whoRan_1 rfl hl (by decide) rfl (fun ls hl => ?_)
  refine lv_iconst (v := 0) hx hb dX12_whoRan_2 (by decide) ?_
  refine lv_istore_n (lv' := [(2, .int 0), (1, .int 0), (0, .ref z)]) hx hb dX12_whoRan_3 rfl hl (by decide) rfl (fun ls hl => ?_)
  refine lv_iload_n hx hb dX12_whoRan_4 rfl (lv_at hl 0 rfl) ?_
  refine lv_aload_n hx hb dX12_whoRan_5 rfl (lv_at hl 2 rfl) ?_
  refine fg_RX12_13 hC hw 0 rfl rfl dX12_whoRan_6 ?_
  refine lv_iconst (v := 1) hx hb dX12_whoRan_9 (by decide) ?_
  refine k_iald hC hw 1 rfl (k_in0 (by decide)) dX12_whoRan_10 ?_
  refine lv_topi (fun x_1215 ex_1215 => ?_)
  obtain rfl : x_1215 = 0 := (show x_1215 = fa 1 from ex_1215).trans ha1
  refine lv_icmp_ge (tgt := 31) hx hb dX12_whoRan_11 (by decide) (fun _ => ?_) (fun h => absurd (by decide) h)
  refine lv_iload_n hx hb dX12_whoRan_31 rfl (lv_at hl 1 rfl) ?_
  exact k_iret hC hr hlocks hw [0, 1] rfl rfl ⟨rfl, rfl⟩ (by decide) (by decide) dX12_whoRan_32

set_option maxHeartbeats 4000000 in
set_option maxRecDepth 100000 in
theorem c_X12_gainedByAll (γ : kΓ) (l : Launch) (z : Nat) (z2 : Nat) (z10 : Nat) (z11 : Nat) (z12 : Nat) (z13 : Nat) (z14 : Nat) (z15 : Nat) (z16 : Nat) (z17 : Nat) (z18 : Nat) (z19 : Nat) (z22 : Nat) (z23 : Nat) (z24 : Nat) (z25 : Nat) (z26 : Nat) (z27 : Nat) (z28 : Nat) (z29 : Nat) (z30 : Nat) (z31 : Nat) (z32 : Nat) (z33 : Nat) (z36 : Nat) (z37 : Nat) (z38 : Nat) (z39 : Nat) (z40 : Nat) (z41 : Nat) (z42 : Nat) (z43 : Nat) (z44 : Nat) (z45 : Nat) (z46 : Nat) (z47 : Nat) (z48 : Nat) (z55 : Nat) (z56 : Nat) (z59 : Nat) (z60 : Nat) (z61 : Nat) (n0 : Int32) (n1 : Int32) (n3 : Int32) (n4 : Int32) (n5 : Int32) (n6 : Int32) (n7 : Int64) (n8 : Int32) (n9 : Int32) (n20 : Int32) (n21 : Int32) (n34 : Int32) (n35 : Int64) (n49 : Int32) (n50 : Int32) (n51 : Int32) (n52 : Int32) (n53 : Int32) (n54 : Int32) (n57 : Int32) (n58 : Int32) (n62 : Int32) (n63 : Int64) (fa : Nat → Int32) (ha0 : fa 0 = 0) (ha1 : fa 1 = 0) (ha2 : fa 2 = 10) (ha3 : fa 3 = 10) (ha4 : fa 4 = 3) : kM γ l yX12_gainedByAll cX12_gainedByAll 3 ((some .int)) ({ frames := 0, cells := 0, slots := 0, locals := 0 } : Room) [.ref z] [(z, .inr (11, [.int n0, .int n1, .ref z2, .int n3, .int n4, .int n5, .int n6, .long n7, .int n8, .int n9, .ref z10, .ref z11, .ref z12, .ref z13, .ref z14, .ref z15, .ref z16, .ref z17, .ref z18, .ref z19, .int n20, .int n21, .ref z22, .ref z23, .ref z24, .ref z25, .ref z26, .ref z27, .ref z28, .ref z29, .ref z30, .ref z31, .ref z32, .ref z33, .int n34, .long n35, .ref z36, .ref z37, .ref z38, .ref z39, .ref z40, .ref z41, .ref z42, .ref z43, .ref z44, .ref z45, .ref z46, .ref z47, .ref z48, .int n49, .int n50, .int n51, .int n52, .int n53, .int n54, .ref z55, .ref z56, .int n57, .int n58, .ref z59, .ref z60, .ref z61, .int n62, .long n63])), (z10, .inl (γ.2.1 0, 10, .inl fa))] (fun r w1 => r = some (.int 0) ∧ w1 = [(z, .inr (11, [.int n0, .int n1, .ref z2, .int n3, .int n4, .int n5, .int n6, .long n7, .int n8, .int n9, .ref z10, .ref z11, .ref z12, .ref z13, .ref z14, .ref z15, .ref z16, .ref z17, .ref z18, .ref z19, .int n20, .int n21, .ref z22, .ref z23, .ref z24, .ref z25, .ref z26, .ref z27, .ref z28, .ref z29, .ref z30, .ref z31, .ref z32, .ref z33, .int n34, .long n35, .ref z36, .ref z37, .ref z38, .ref z39, .ref z40, .ref z41, .ref z42, .ref z43, .ref z44, .ref z45, .ref z46, .ref z47, .ref z48, .int n49, .int n50, .int n51, .int n52, .int n53, .int n54, .ref z55, .ref z56, .int n57, .int n58, .ref z59, .ref z60, .ref z61, .int n62, .long n63])), (z10, .inl (γ.2.1 0, 10, .inl fa))]) := by
  refine k_ofW (by decide) (Nat.le_of_ble_eq_true rfl) ?_
  intro p e s m below meth c A ls hC hr hlocks hname hw hl
  have hx := hC.1
  have hb := hC.2.1
  have hl : lv_has ls 3 [(0, .ref z)] := hl
  refine lv_iconst (v := 0) hx hb dX12_gainedByAll_0 (by decide) ?_
  refine lv_istore_n (lv' := [(1, .int 0), (0, .ref z)]) hx hb dX12_gainedByAll_1 rfl hl (by decide) rfl (fun ls hl => ?_)
  refine lv_iconst (v := 0) hx hb dX12_gainedByAll_2 (by decide) ?_
  refine lv_istore_n (lv' := [(2, .int 0), (1, .int 0), (0, .ref z)]) hx hb dX12_gainedByAll_3 rfl hl (by decide) rfl (fun ls hl => ?_)
  refine lv_iload_n hx hb dX12_gainedByAll_4 rfl (lv_at hl 0 rfl) ?_
  refine lv_aload_n hx hb dX12_gainedByAll_5 rfl (lv_at hl 2 rfl) ?_
  refine fg_RX12_13 hC hw 0 rfl rfl dX12_gainedByAll_6 ?_
  refine lv_iconst (v := 1) hx hb dX12_gainedByAll_9 (by decide) ?_
  refine k_iald hC hw 1 rfl (k_in0 (by decide)) dX12_gainedByAll_10 ?_
  refine lv_topi (fun x_1216 ex_1216 => ?_)
  obtain rfl : x_1216 = 0 := (show x_1216 = fa 1 from ex_1216).trans ha1
  refine lv_icmp_ge (tgt := 29) hx hb dX12_gainedByAll_11 (by decide) (fun _ => ?_) (fun h => absurd (by decide) h)
  refine lv_iload_n hx hb dX12_gainedByAll_29 rfl (lv_at hl 1 rfl) ?_
  exact k_iret hC hr hlocks hw [0, 1] rfl rfl ⟨rfl, rfl⟩ (by decide) (by decide) dX12_gainedByAll_30

set_option maxHeartbeats 4000000 in
set_option maxRecDepth 100000 in
theorem c_X12_givers (γ : kΓ) (l : Launch) (z : Nat) (z2 : Nat) (z10 : Nat) (z11 : Nat) (z12 : Nat) (z13 : Nat) (z14 : Nat) (z15 : Nat) (z16 : Nat) (z17 : Nat) (z18 : Nat) (z19 : Nat) (z22 : Nat) (z23 : Nat) (z24 : Nat) (z25 : Nat) (z26 : Nat) (z27 : Nat) (z28 : Nat) (z29 : Nat) (z30 : Nat) (z31 : Nat) (z32 : Nat) (z33 : Nat) (z36 : Nat) (z37 : Nat) (z38 : Nat) (z39 : Nat) (z40 : Nat) (z41 : Nat) (z42 : Nat) (z43 : Nat) (z44 : Nat) (z45 : Nat) (z46 : Nat) (z47 : Nat) (z48 : Nat) (z55 : Nat) (z56 : Nat) (z59 : Nat) (z60 : Nat) (z61 : Nat) (fa : Nat → Int32) (ha0 : fa 0 = 0) (ha1 : fa 1 = 0) (ha2 : fa 2 = 10) (ha3 : fa 3 = 10) (ha4 : fa 4 = 3) : kM γ l yX12_givers cX12_givers 7 ((some .int)) ({ frames := 1, cells := 0, slots := 0, locals := 22 } : Room) [.ref z] [(z, .inr (11, [.int 0, .int 0, .ref z2, .int 0, .int 0, .int 0, .int 0, .long 0, .int 0, .int 0, .ref z10, .ref z11, .ref z12, .ref z13, .ref z14, .ref z15, .ref z16, .ref z17, .ref z18, .ref z19, .int 0, .int 0, .ref z22, .ref z23, .ref z24, .ref z25, .ref z26, .ref z27, .ref z28, .ref z29, .ref z30, .ref z31, .ref z32, .ref z33, .int 0, .long 0, .ref z36, .ref z37, .ref z38, .ref z39, .ref z40, .ref z41, .ref z42, .ref z43, .ref z44, .ref z45, .ref z46, .ref z47, .ref z48, .int 0, .int 10, .int 0, .int 0, .int 0, .int 0, .ref z55, .ref z56, .int 0, .int 0, .ref z59, .ref z60, .ref z61, .int 0, .long 0])), (z10, .inl (γ.2.1 0, 10, .inl fa))] (fun r w1 => r = some (.int (-1)) ∧ w1 = []) := by
  refine k_ofW (by decide) (Nat.le_of_ble_eq_true rfl) ?_
  intro p e s m below meth c A ls hC hr hlocks hname hw hl
  have hx := hC.1
  have hb := hC.2.1
  have hl : lv_has ls 7 [(0, .ref z)] := hl
  refine lv_aload_n hx hb dX12_givers_0 rfl (lv_at hl 0 rfl) ?_
  refine lv_iconst (v := 0) hx hb dX12_givers_1 (by decide) ?_
  refine fs_RX12_143 hC hw 0 rfl rfl rfl (Nat.le_of_ble_eq_true rfl) dX12_givers_2 (fun H locs hw => ?_)
  have hw : kW γ A [(z, .inr (11, [.int 0, .int 0, .ref z2, .int 0, .int 0, .int 0, .int 0, .long 0, .int 0, .int 0, .ref z10, .ref z11, .ref z12, .ref z13, .ref z14, .ref z15, .ref z16, .ref z17, .ref z18, .ref z19, .int 0, .int 0, .ref z22, .ref z23, .ref z24, .ref z25, .ref z26, .ref z27, .ref z28, .ref z29, .ref z30, .ref z31, .ref z32, .ref z33, .int 0, .long 0, .ref z36, .ref z37, .ref z38, .ref z39, .ref z40, .ref z41, .ref z42, .ref z43, .ref z44, .ref z45, .ref z46, .ref z47, .ref z48, .int 0, .int 10, .int 0, .int 0, .int 0, .int 0, .ref z55, .ref z56, .int 0, .int 0, .ref z59, .ref z60, .ref z61, .int 0, .long 0])), (z10, .inl (γ.2.1 0, 10, .inl fa))] s H locs := hw
  refine lv_aload_n hx hb dX12_givers_5 rfl (lv_at hl 0 rfl) ?_
  refine k_V (wr := []) 0 gw_1712 gw_1714 gp_104 gw_15 gw_1715 hd_X12_lacking hC hw (c_X12_lacking γ l z z2 z10 z11 z12 z13 z14 z15 z16 z17 z18 z19 z22 z23 z24 z25 z26 z27 z28 z29 z30 z31 z32 z33 z36 z37 z38 z39 z40 z41 z42 z43 z44 z45 z46 z47 z48 z55 z56 z59 z60 z61 fa ha0 ha1 ha2 ha3 ha4) ⟨by decide, by decide⟩ ⟨by decide, by decide⟩ hl.1 rfl 0 rfl rfl rfl (Nat.le_of_ble_eq_true rfl) [0, 1] [] rfl rfl rfl rfl (by decide) dX12_givers_6 (fun r w1 H locs hq hw => ?_)
  obtain ⟨rfl, rfl⟩ := hq
  have hw : kW γ A [(z, .inr (11, [.int 0, .int 0, .ref z2, .int 0, .int 0, .int 0, .int 0, .long 0, .int 0, .int 0, .ref z10, .ref z11, .ref z12, .ref z13, .ref z14, .ref z15, .ref z16, .ref z17, .ref z18, .ref z19, .int 0, .int 0, .ref z22, .ref z23, .ref z24, .ref z25, .ref z26, .ref z27, .ref z28, .ref z29, .ref z30, .ref z31, .ref z32, .ref z33, .int 0, .long 0, .ref z36, .ref z37, .ref z38, .ref z39, .ref z40, .ref z41, .ref z42, .ref z43, .ref z44, .ref z45, .ref z46, .ref z47, .ref z48, .int 0, .int 10, .int 0, .int 0, .int 0, .int 0, .ref z55, .ref z56, .int 0, .int 0, .ref z59, .ref z60, .ref z61, .int 0, .long 0])), (z10, .inl (γ.2.1 0, 10, .inl fa))] s H locs := hw
  refine W.eq (g2 := F0 m 9 ls [.int 7]) rfl ?_
  refine lv_istore_n (lv' := [(1, .int 7), (0, .ref z)]) hx hb dX12_givers_9 rfl hl (by decide) rfl (fun ls hl => ?_)
  refine lv_aload_n hx hb dX12_givers_10 rfl (lv_at hl 1 rfl) ?_
  refine k_V (wr := []) 0 gw_1720 gw_1722 gp_105 gw_15 gw_1723 hd_X12_whoRan hC hw (c_X12_whoRan γ l z z2 z10 z11 z12 z13 z14 z15 z16 z17 z18 z19 z22 z23 z24 z25 z26 z27 z28 z29 z30 z31 z32 z33 z36 z37 z38 z39 z40 z41 z42 z43 z44 z45 z46 z47 z48 z55 z56 z59 z60 z61 0 0 0 0 0 0 0 0 0 0 0 0 0 0 10 0 0 0 0 0 0 0 0 fa ha0 ha1 ha2 ha3 ha4) ⟨by decide, by decide⟩ ⟨by decide, by decide⟩ hl.1 rfl 0 rfl rfl rfl (Nat.le_of_ble_eq_true rfl) [0, 1] [] rfl rfl rfl rfl (by decide) dX12_givers_11 (fun r w1 H locs hq hw => ?_)
  obtain ⟨rfl, rfl⟩ := hq
  have hw : kW γ A [(z, .inr (11, [.int 0, .int 0, .ref z2, .int 0, .int 0, .int 0, .int 0, .long 0, .int 0, .int 0, .ref z10, .ref z11, .ref z12, .ref z13, .ref z14, .ref z15, .ref z16, .ref z17, .ref z18, .ref z19, .int 0, .int 0, .ref z22, .ref z23, .ref z24, .ref z25, .ref z26, .ref z27, .ref z28, .ref z29, .ref z30, .ref z31, .ref z32, .ref z33, .int 0, .long 0, .ref z36, .ref z37, .ref z38, .ref z39, .ref z40, .ref z41, .ref z42, .ref z43, .ref z44, .ref z45, .ref z46, .ref z47, .ref z48, .int 0, .int 10, .int 0, .int 0, .int 0, .int 0, .ref z55, .ref z56, .int 0, .int 0, .ref z59, .ref z60, .ref z61, .int 0, .long 0])), (z10, .inl (γ.2.1 0, 10, .inl fa))] s H locs := hw
  refine W.eq (g2 := F0 m 14 ls [.int 0]) rfl ?_
  refine lv_istore_n (lv' := [(2, .int 0), (1, .int 7), (0, .ref z)]) hx hb dX12_givers_14 rfl hl (by decide) rfl (fun ls hl => ?_)
  refine lv_iconst (v := (-1)) hx hb dX12_givers_15 (by decide) ?_
  refine lv_istore_n (lv' := [(3, .int (-1)), (2, .int 0), (1, .int 7), (0, .ref z)]) hx hb dX12_givers_16 rfl hl (by decide) rfl (fun ls hl => ?_)
  refine lv_iconst (v := 0) hx hb dX12_givers_17 (by decide) ?_
  refine lv_istore (lv' := [(4, .int 0), (3, .int (-1)), (2, .int 0), (1, .int 7), (0, .ref z)]) hx hb dX12_givers_18 hl (by decide) rfl (fun ls hl => ?_)
  refine lv_iload hx hb dX12_givers_20 (lv_at hl 0 rfl) ?_
  refine lv_iconst (v := 1) hx hb dX12_givers_22 (by decide) ?_
  refine lv_aload_n hx hb dX12_givers_23 rfl (lv_at hl 4 rfl) ?_
  refine fg_RX12_13 hC hw 0 rfl rfl dX12_givers_24 ?_
  refine lv_iconst (v := 1) hx hb dX12_givers_27 (by decide) ?_
  refine k_iald hC hw 1 rfl (k_in0 (by decide)) dX12_givers_28 ?_
  refine lv_topi (fun x_1217 ex_1217 => ?_)
  obtain rfl : x_1217 = 0 := (show x_1217 = fa 1 from ex_1217).trans ha1
  refine lv_ishl hx hb dX12_givers_29 ?_
  refine lv_topi (fun x_1218 ex_1218 => ?_)
  obtain rfl : x_1218 = 1 := ex_1218.trans (by decide)
  refine lv_icmp_ge (tgt := 126) hx hb dX12_givers_30 (by decide) (fun h => absurd h (by decide)) (fun _ => ?_)
  refine lv_iload hx hb dX12_givers_33 (lv_at hl 0 rfl) ?_
  refine lv_iload_n hx hb dX12_givers_35 rfl (lv_at hl 2 rfl) ?_
  refine lv_iand hx hb dX12_givers_36 ?_
  refine lv_topi (fun x_1219 ex_1219 => ?_)
  obtain rfl : x_1219 = 0 := ex_1219.trans (by decide)
  refine lv_if_ne (tgt := 120) hx hb dX12_givers_37 (by decide) (fun h => absurd rfl h) (fun _ => ?_)
  refine lv_iload_n hx hb dX12_givers_40 rfl (lv_at hl 1 rfl) ?_
  refine lv_if_lt (tgt := 59) hx hb dX12_givers_41 (by decide) (fun _ => ?_) (fun h => absurd (by decide) h)
  refine lv_iconst (v := 0) hx hb dX12_givers_59 (by decide) ?_
  refine lv_istore (lv' := [(5, .int 0), (4, .int 0), (3, .int (-1)), (2, .int 0), (1, .int 7), (0, .ref z)]) hx hb dX12_givers_60 hl (by decide) rfl (fun ls hl => ?_)
  refine lv_iconst (v := 0) hx hb dX12_givers_62 (by decide) ?_
  refine lv_istore (lv' := [(6, .int 0), (5, .int 0), (4, .int 0), (3, .int (-1)), (2, .int 0), (1, .int 7), (0, .ref z)]) hx hb dX12_givers_63 hl (by decide) rfl (fun ls hl => ?_)
  refine lv_iload hx hb dX12_givers_65 (lv_at hl 0 rfl) ?_
  refine lv_aload_n hx hb dX12_givers_67 rfl (lv_at hl 6 rfl) ?_
  refine fg_RX12_13 hC hw 0 rfl rfl dX12_givers_68 ?_
  refine lv_iconst (v := 1) hx hb dX12_givers_71 (by decide) ?_
  refine k_iald hC hw 1 rfl (k_in0 (by decide)) dX12_givers_72 ?_
  refine lv_topi (fun x_1220 ex_1220 => ?_)
  obtain rfl : x_1220 = 0 := (show x_1220 = fa 1 from ex_1220).trans ha1
  refine lv_icmp_ge (tgt := 108) hx hb dX12_givers_73 (by decide) (fun _ => ?_) (fun h => absurd (by decide) h)
  refine lv_iload_n hx hb dX12_givers_108 rfl (lv_at hl 5 rfl) ?_
  refine lv_iload hx hb dX12_givers_109 (lv_at hl 1 rfl) ?_
  refine lv_iconst (v := (-1)) hx hb dX12_givers_111 (by decide) ?_
  refine lv_ixor hx hb dX12_givers_112 ?_
  refine lv_topi (fun x_1221 ex_1221 => ?_)
  obtain rfl : x_1221 = (-1) := ex_1221.trans (by decide)
  refine lv_iand hx hb dX12_givers_113 ?_
  refine lv_topi (fun x_1222 ex_1222 => ?_)
  obtain rfl : x_1222 = 7 := ex_1222.trans (by decide)
  refine lv_if_ne (tgt := 120) hx hb dX12_givers_114 (by decide) (fun _ => ?_) (fun h => absurd h (by decide))
  refine lv_iinc (v := 1) (lv' := [(4, .int 1), (6, .int 0), (5, .int 0), (3, .int (-1)), (2, .int 0), (1, .int 7), (0, .ref z)]) hx hb dX12_givers_120 hl (k := 2) rfl (by decide) (by decide) rfl (fun ls hl => ?_)
  refine lv_goto (tgt := 20) hx hb dX12_givers_123 (by decide) ?_
  refine lv_iload hx hb dX12_givers_20 (lv_at hl 0 rfl) ?_
  refine lv_iconst (v := 1) hx hb dX12_givers_22 (by decide) ?_
  refine lv_aload_n hx hb dX12_givers_23 rfl (lv_at hl 6 rfl) ?_
  refine fg_RX12_13 hC hw 0 rfl rfl dX12_givers_24 ?_
  refine lv_iconst (v := 1) hx hb dX12_givers_27 (by decide) ?_
  refine k_iald hC hw 1 rfl (k_in0 (by decide)) dX12_givers_28 ?_
  refine lv_topi (fun x_1223 ex_1223 => ?_)
  obtain rfl : x_1223 = 0 := (show x_1223 = fa 1 from ex_1223).trans ha1
  refine lv_ishl hx hb dX12_givers_29 ?_
  refine lv_topi (fun x_1224 ex_1224 => ?_)
  obtain rfl : x_1224 = 1 := ex_1224.trans (by decide)
  refine lv_icmp_ge (tgt := 126) hx hb dX12_givers_30 (by decide) (fun _ => ?_) (fun h => absurd (by decide) h)
  refine lv_iload_n hx hb dX12_givers_126 rfl (lv_at hl 3 rfl) ?_
  exact k_iret hC hr hlocks hw [] rfl rfl ⟨rfl, rfl⟩ (by decide) (by decide) dX12_givers_127

set_option maxHeartbeats 4000000 in
set_option maxRecDepth 100000 in
theorem c_X12_undo (γ : kΓ) (l : Launch) (z : Nat) (z2 : Nat) (z10 : Nat) (z11 : Nat) (z12 : Nat) (z13 : Nat) (z14 : Nat) (z15 : Nat) (z16 : Nat) (z17 : Nat) (z18 : Nat) (z19 : Nat) (z22 : Nat) (z23 : Nat) (z24 : Nat) (z25 : Nat) (z26 : Nat) (z27 : Nat) (z28 : Nat) (z29 : Nat) (z30 : Nat) (z31 : Nat) (z32 : Nat) (z33 : Nat) (z36 : Nat) (z37 : Nat) (z38 : Nat) (z39 : Nat) (z40 : Nat) (z41 : Nat) (z42 : Nat) (z43 : Nat) (z44 : Nat) (z45 : Nat) (z46 : Nat) (z47 : Nat) (z48 : Nat) (z55 : Nat) (z56 : Nat) (z59 : Nat) (z60 : Nat) (z61 : Nat) : kM γ l yX12_undo cX12_undo 1 ((some .boolean)) ({ frames := 0, cells := 0, slots := 0, locals := 0 } : Room) [.ref z] [(z, .inr (11, [.int 0, .int 0, .ref z2, .int 0, .int 0, .int 0, .int 0, .long 0, .int 0, .int 0, .ref z10, .ref z11, .ref z12, .ref z13, .ref z14, .ref z15, .ref z16, .ref z17, .ref z18, .ref z19, .int 0, .int 0, .ref z22, .ref z23, .ref z24, .ref z25, .ref z26, .ref z27, .ref z28, .ref z29, .ref z30, .ref z31, .ref z32, .ref z33, .int 0, .long 0, .ref z36, .ref z37, .ref z38, .ref z39, .ref z40, .ref z41, .ref z42, .ref z43, .ref z44, .ref z45, .ref z46, .ref z47, .ref z48, .int 0, .int 10, .int 0, .int 0, .int 0, .int 0, .ref z55, .ref z56, .int 0, .int 0, .ref z59, .ref z60, .ref z61, .int 0, .long 0]))] (fun r w1 => r = some (.int 0) ∧ w1 = []) := by
  refine k_ofW (by decide) (Nat.le_of_ble_eq_true rfl) ?_
  intro p e s m below meth c A ls hC hr hlocks hname hw hl
  have hx := hC.1
  have hb := hC.2.1
  have hl : lv_has ls 1 [(0, .ref z)] := hl
  refine lv_aload_n hx hb dX12_undo_0 rfl (lv_at hl 0 rfl) ?_
  refine lv_iconst (v := 0) hx hb dX12_undo_1 (by decide) ?_
  refine fs_RX12_143 hC hw 0 rfl rfl rfl (Nat.le_of_ble_eq_true rfl) dX12_undo_2 (fun H locs hw => ?_)
  have hw : kW γ A [(z, .inr (11, [.int 0, .int 0, .ref z2, .int 0, .int 0, .int 0, .int 0, .long 0, .int 0, .int 0, .ref z10, .ref z11, .ref z12, .ref z13, .ref z14, .ref z15, .ref z16, .ref z17, .ref z18, .ref z19, .int 0, .int 0, .ref z22, .ref z23, .ref z24, .ref z25, .ref z26, .ref z27, .ref z28, .ref z29, .ref z30, .ref z31, .ref z32, .ref z33, .int 0, .long 0, .ref z36, .ref z37, .ref z38, .ref z39, .ref z40, .ref z41, .ref z42, .ref z43, .ref z44, .ref z45, .ref z46, .ref z47, .ref z48, .int 0, .int 10, .int 0, .int 0, .int 0, .int 0, .ref z55, .ref z56, .int 0, .int 0, .ref z59, .ref z60, .ref z61, .int 0, .long 0]))] s H locs := hw
  refine lv_aload_n hx hb dX12_undo_5 rfl (lv_at hl 0 rfl) ?_
  refine fg_RX12_339 hC hw 0 rfl rfl dX12_undo_6 ?_
  refine lv_if_ne (tgt := 14) hx hb dX12_undo_9 (by decide) (fun h => absurd rfl h) (fun _ => ?_)
  refine lv_iconst (v := 0) hx hb dX12_undo_12 (by decide) ?_
  exact k_zret hC hr hlocks rfl hw [] rfl rfl ⟨rfl, rfl⟩ (by decide) (by decide) dX12_undo_13

set_option maxHeartbeats 4000000 in
set_option maxRecDepth 100000 in
theorem c_X12_holders_l (γ : kΓ) (l : Launch) (z : Nat) (z2 : Nat) (z10 : Nat) (z11 : Nat) (z12 : Nat) (z13 : Nat) (z14 : Nat) (z15 : Nat) (z16 : Nat) (z17 : Nat) (z18 : Nat) (z19 : Nat) (z22 : Nat) (z23 : Nat) (z24 : Nat) (z25 : Nat) (z26 : Nat) (z27 : Nat) (z28 : Nat) (z29 : Nat) (z30 : Nat) (z31 : Nat) (z32 : Nat) (z33 : Nat) (z36 : Nat) (z37 : Nat) (z38 : Nat) (z39 : Nat) (z40 : Nat) (z41 : Nat) (z42 : Nat) (z43 : Nat) (z44 : Nat) (z45 : Nat) (z46 : Nat) (z47 : Nat) (z48 : Nat) (z55 : Nat) (z56 : Nat) (z59 : Nat) (z60 : Nat) (z61 : Nat) (fa : Nat → Int32) (t : Int32) (ha0 : fa 0 = 0) (ha1 : fa 1 = 0) (ha2 : fa 2 = 10) (ha3 : fa 3 = 10) (ha4 : fa 4 = 3) (h1 : t < 1) : kM γ l yX12_holders cX12_holders 4 ((some .int)) ({ frames := 1, cells := 0, slots := 0, locals := 22 } : Room) [.ref z, .int t] [(z, .inr (11, [.int 0, .int 0, .ref z2, .int 0, .int 0, .int 0, .int 0, .long 0, .int 0, .int 0, .ref z10, .ref z11, .ref z12, .ref z13, .ref z14, .ref z15, .ref z16, .ref z17, .ref z18, .ref z19, .int 0, .int 0, .ref z22, .ref z23, .ref z24, .ref z25, .ref z26, .ref z27, .ref z28, .ref z29, .ref z30, .ref z31, .ref z32, .ref z33, .int 0, .long 0, .ref z36, .ref z37, .ref z38, .ref z39, .ref z40, .ref z41, .ref z42, .ref z43, .ref z44, .ref z45, .ref z46, .ref z47, .ref z48, .int 0, .int 10, .int 0, .int 0, .int 0, .int 0, .ref z55, .ref z56, .int 0, .int 0, .ref z59, .ref z60, .ref z61, .int 0, .long 0])), (z10, .inl (γ.2.1 0, 10, .inl fa))] (fun r w1 => r = some (.int (-1)) ∧ w1 = []) := by
  refine k_ofW (by decide) (Nat.le_of_ble_eq_true rfl) ?_
  intro p e s m below meth c A ls hC hr hlocks hname hw hl
  have hx := hC.1
  have hb := hC.2.1
  have hl : lv_has ls 4 [(0, .ref z), (1, .int t)] := hl
  refine lv_aload_n hx hb dX12_holders_0 rfl (lv_at hl 0 rfl) ?_
  refine lv_iconst (v := 0) hx hb dX12_holders_1 (by decide) ?_
  refine fs_RX12_143 hC hw 0 rfl rfl rfl (Nat.le_of_ble_eq_true rfl) dX12_holders_2 (fun H locs hw => ?_)
  have hw : kW γ A [(z, .inr (11, [.int 0, .int 0, .ref z2, .int 0, .int 0, .int 0, .int 0, .long 0, .int 0, .int 0, .ref z10, .ref z11, .ref z12, .ref z13, .ref z14, .ref z15, .ref z16, .ref z17, .ref z18, .ref z19, .int 0, .int 0, .ref z22, .ref z23, .ref z24, .ref z25, .ref z26, .ref z27, .ref z28, .ref z29, .ref z30, .ref z31, .ref z32, .ref z33, .int 0, .long 0, .ref z36, .ref z37, .ref z38, .ref z39, .ref z40, .ref z41, .ref z42, .ref z43, .ref z44, .ref z45, .ref z46, .ref z47, .ref z48, .int 0, .int 10, .int 0, .int 0, .int 0, .int 0, .ref z55, .ref z56, .int 0, .int 0, .ref z59, .ref z60, .ref z61, .int 0, .long 0])), (z10, .inl (γ.2.1 0, 10, .inl fa))] s H locs := hw
  refine lv_iload_n hx hb dX12_holders_5 rfl (lv_at hl 1 rfl) ?_
  refine lv_iconst (v := 1) hx hb dX12_holders_6 (by decide) ?_
  refine lv_bipush (v := 6) hx hb dX12_holders_7 (by decide) ?_
  refine k_S (wr := [(z, .inr (11, [.int 0, .int 0, .ref z2, .int 0, .int 0, .int 0, .int 0, .long 0, .int 0, .int 0, .ref z10, .ref z11, .ref z12, .ref z13, .ref z14, .ref z15, .ref z16, .ref z17, .ref z18, .ref z19, .int 0, .int 0, .ref z22, .ref z23, .ref z24, .ref z25, .ref z26, .ref z27, .ref z28, .ref z29, .ref z30, .ref z31, .ref z32, .ref z33, .int 0, .long 0, .ref z36, .ref z37, .ref z38, .ref z39, .ref z40, .ref z41, .ref z42, .ref z43, .ref z44, .ref z45, .ref z46, .ref z47, .ref z48, .int 0, .int 10, .int 0, .int 0, .int 0, .int 0, .ref z55, .ref z56, .int 0, .int 0, .ref z59, .ref z60, .ref z61, .int 0, .long 0])), (z10, .inl (γ.2.1 0, 10, .inl fa))]) 3 gw_1472 gw_1473 gw_15 gw_1474 hd_X12_within hC hw (c_within_l γ l t 1 6 h1) ⟨by decide, by decide⟩ ⟨by decide, by decide⟩ hl.1 rfl rfl (Nat.le_of_ble_eq_true rfl) [] [0, 1] rfl rfl rfl rfl (by decide) dX12_holders_9 (fun r w1 H locs hq hw => ?_)
  obtain ⟨rfl, rfl⟩ := hq
  have hw : kW γ A [(z, .inr (11, [.int 0, .int 0, .ref z2, .int 0, .int 0, .int 0, .int 0, .long 0, .int 0, .int 0, .ref z10, .ref z11, .ref z12, .ref z13, .ref z14, .ref z15, .ref z16, .ref z17, .ref z18, .ref z19, .int 0, .int 0, .ref z22, .ref z23, .ref z24, .ref z25, .ref z26, .ref z27, .ref z28, .ref z29, .ref z30, .ref z31, .ref z32, .ref z33, .int 0, .long 0, .ref z36, .ref z37, .ref z38, .ref z39, .ref z40, .ref z41, .ref z42, .ref z43, .ref z44, .ref z45, .ref z46, .ref z47, .ref z48, .int 0, .int 10, .int 0, .int 0, .int 0, .int 0, .ref z55, .ref z56, .int 0, .int 0, .ref z59, .ref z60, .ref z61, .int 0, .long 0])), (z10, .inl (γ.2.1 0, 10, .inl fa))] s H locs := hw
  refine W.eq (g2 := F0 m 12 ls [.int 0]) rfl ?_
  refine lv_if_ne (tgt := 17) hx hb dX12_holders_12 (by decide) (fun h => absurd rfl h) (fun _ => ?_)
  refine lv_iconst (v := (-1)) hx hb dX12_holders_15 (by decide) ?_
  exact k_iret hC hr hlocks hw [] rfl rfl ⟨rfl, rfl⟩ (by decide) (by decide) dX12_holders_16

set_option maxHeartbeats 4000000 in
set_option maxRecDepth 100000 in
theorem c_X12_holders_h (γ : kΓ) (l : Launch) (z : Nat) (z2 : Nat) (z10 : Nat) (z11 : Nat) (z12 : Nat) (z13 : Nat) (z14 : Nat) (z15 : Nat) (z16 : Nat) (z17 : Nat) (z18 : Nat) (z19 : Nat) (z22 : Nat) (z23 : Nat) (z24 : Nat) (z25 : Nat) (z26 : Nat) (z27 : Nat) (z28 : Nat) (z29 : Nat) (z30 : Nat) (z31 : Nat) (z32 : Nat) (z33 : Nat) (z36 : Nat) (z37 : Nat) (z38 : Nat) (z39 : Nat) (z40 : Nat) (z41 : Nat) (z42 : Nat) (z43 : Nat) (z44 : Nat) (z45 : Nat) (z46 : Nat) (z47 : Nat) (z48 : Nat) (z55 : Nat) (z56 : Nat) (z59 : Nat) (z60 : Nat) (z61 : Nat) (fa : Nat → Int32) (t : Int32) (ha0 : fa 0 = 0) (ha1 : fa 1 = 0) (ha2 : fa 2 = 10) (ha3 : fa 3 = 10) (ha4 : fa 4 = 3) (h1 : ¬ t < 1) (h2 : 6 < t) : kM γ l yX12_holders cX12_holders 4 ((some .int)) ({ frames := 1, cells := 0, slots := 0, locals := 22 } : Room) [.ref z, .int t] [(z, .inr (11, [.int 0, .int 0, .ref z2, .int 0, .int 0, .int 0, .int 0, .long 0, .int 0, .int 0, .ref z10, .ref z11, .ref z12, .ref z13, .ref z14, .ref z15, .ref z16, .ref z17, .ref z18, .ref z19, .int 0, .int 0, .ref z22, .ref z23, .ref z24, .ref z25, .ref z26, .ref z27, .ref z28, .ref z29, .ref z30, .ref z31, .ref z32, .ref z33, .int 0, .long 0, .ref z36, .ref z37, .ref z38, .ref z39, .ref z40, .ref z41, .ref z42, .ref z43, .ref z44, .ref z45, .ref z46, .ref z47, .ref z48, .int 0, .int 10, .int 0, .int 0, .int 0, .int 0, .ref z55, .ref z56, .int 0, .int 0, .ref z59, .ref z60, .ref z61, .int 0, .long 0])), (z10, .inl (γ.2.1 0, 10, .inl fa))] (fun r w1 => r = some (.int (-1)) ∧ w1 = []) := by
  refine k_ofW (by decide) (Nat.le_of_ble_eq_true rfl) ?_
  intro p e s m below meth c A ls hC hr hlocks hname hw hl
  have hx := hC.1
  have hb := hC.2.1
  have hl : lv_has ls 4 [(0, .ref z), (1, .int t)] := hl
  refine lv_aload_n hx hb dX12_holders_0 rfl (lv_at hl 0 rfl) ?_
  refine lv_iconst (v := 0) hx hb dX12_holders_1 (by decide) ?_
  refine fs_RX12_143 hC hw 0 rfl rfl rfl (Nat.le_of_ble_eq_true rfl) dX12_holders_2 (fun H locs hw => ?_)
  have hw : kW γ A [(z, .inr (11, [.int 0, .int 0, .ref z2, .int 0, .int 0, .int 0, .int 0, .long 0, .int 0, .int 0, .ref z10, .ref z11, .ref z12, .ref z13, .ref z14, .ref z15, .ref z16, .ref z17, .ref z18, .ref z19, .int 0, .int 0, .ref z22, .ref z23, .ref z24, .ref z25, .ref z26, .ref z27, .ref z28, .ref z29, .ref z30, .ref z31, .ref z32, .ref z33, .int 0, .long 0, .ref z36, .ref z37, .ref z38, .ref z39, .ref z40, .ref z41, .ref z42, .ref z43, .ref z44, .ref z45, .ref z46, .ref z47, .ref z48, .int 0, .int 10, .int 0, .int 0, .int 0, .int 0, .ref z55, .ref z56, .int 0, .int 0, .ref z59, .ref z60, .ref z61, .int 0, .long 0])), (z10, .inl (γ.2.1 0, 10, .inl fa))] s H locs := hw
  refine lv_iload_n hx hb dX12_holders_5 rfl (lv_at hl 1 rfl) ?_
  refine lv_iconst (v := 1) hx hb dX12_holders_6 (by decide) ?_
  refine lv_bipush (v := 6) hx hb dX12_holders_7 (by decide) ?_
  refine k_S (wr := [(z, .inr (11, [.int 0, .int 0, .ref z2, .int 0, .int 0, .int 0, .int 0, .long 0, .int 0, .int 0, .ref z10, .ref z11, .ref z12, .ref z13, .ref z14, .ref z15, .ref z16, .ref z17, .ref z18, .ref z19, .int 0, .int 0, .ref z22, .ref z23, .ref z24, .ref z25, .ref z26, .ref z27, .ref z28, .ref z29, .ref z30, .ref z31, .ref z32, .ref z33, .int 0, .long 0, .ref z36, .ref z37, .ref z38, .ref z39, .ref z40, .ref z41, .ref z42, .ref z43, .ref z44, .ref z45, .ref z46, .ref z47, .ref z48, .int 0, .int 10, .int 0, .int 0, .int 0, .int 0, .ref z55, .ref z56, .int 0, .int 0, .ref z59, .ref z60, .ref z61, .int 0, .long 0])), (z10, .inl (γ.2.1 0, 10, .inl fa))]) 3 gw_1472 gw_1473 gw_15 gw_1474 hd_X12_within hC hw (c_within_h γ l t 1 6 h1 h2) ⟨by decide, by decide⟩ ⟨by decide, by decide⟩ hl.1 rfl rfl (Nat.le_of_ble_eq_true rfl) [] [0, 1] rfl rfl rfl rfl (by decide) dX12_holders_9 (fun r w1 H locs hq hw => ?_)
  obtain ⟨rfl, rfl⟩ := hq
  have hw : kW γ A [(z, .inr (11, [.int 0, .int 0, .ref z2, .int 0, .int 0, .int 0, .int 0, .long 0, .int 0, .int 0, .ref z10, .ref z11, .ref z12, .ref z13, .ref z14, .ref z15, .ref z16, .ref z17, .ref z18, .ref z19, .int 0, .int 0, .ref z22, .ref z23, .ref z24, .ref z25, .ref z26, .ref z27, .ref z28, .ref z29, .ref z30, .ref z31, .ref z32, .ref z33, .int 0, .long 0, .ref z36, .ref z37, .ref z38, .ref z39, .ref z40, .ref z41, .ref z42, .ref z43, .ref z44, .ref z45, .ref z46, .ref z47, .ref z48, .int 0, .int 10, .int 0, .int 0, .int 0, .int 0, .ref z55, .ref z56, .int 0, .int 0, .ref z59, .ref z60, .ref z61, .int 0, .long 0])), (z10, .inl (γ.2.1 0, 10, .inl fa))] s H locs := hw
  refine W.eq (g2 := F0 m 12 ls [.int 0]) rfl ?_
  refine lv_if_ne (tgt := 17) hx hb dX12_holders_12 (by decide) (fun h => absurd rfl h) (fun _ => ?_)
  refine lv_iconst (v := (-1)) hx hb dX12_holders_15 (by decide) ?_
  exact k_iret hC hr hlocks hw [] rfl rfl ⟨rfl, rfl⟩ (by decide) (by decide) dX12_holders_16

set_option maxHeartbeats 4000000 in
set_option maxRecDepth 100000 in
theorem c_X12_holders_t (γ : kΓ) (l : Launch) (z : Nat) (z2 : Nat) (z10 : Nat) (z11 : Nat) (z12 : Nat) (z13 : Nat) (z14 : Nat) (z15 : Nat) (z16 : Nat) (z17 : Nat) (z18 : Nat) (z19 : Nat) (z22 : Nat) (z23 : Nat) (z24 : Nat) (z25 : Nat) (z26 : Nat) (z27 : Nat) (z28 : Nat) (z29 : Nat) (z30 : Nat) (z31 : Nat) (z32 : Nat) (z33 : Nat) (z36 : Nat) (z37 : Nat) (z38 : Nat) (z39 : Nat) (z40 : Nat) (z41 : Nat) (z42 : Nat) (z43 : Nat) (z44 : Nat) (z45 : Nat) (z46 : Nat) (z47 : Nat) (z48 : Nat) (z55 : Nat) (z56 : Nat) (z59 : Nat) (z60 : Nat) (z61 : Nat) (fa : Nat → Int32) (t : Int32) (ha0 : fa 0 = 0) (ha1 : fa 1 = 0) (ha2 : fa 2 = 10) (ha3 : fa 3 = 10) (ha4 : fa 4 = 3) (h1 : ¬ t < 1) (h2 : ¬ 6 < t) : kM γ l yX12_holders cX12_holders 4 ((some .int)) ({ frames := 1, cells := 0, slots := 0, locals := 22 } : Room) [.ref z, .int t] [(z, .inr (11, [.int 0, .int 0, .ref z2, .int 0, .int 0, .int 0, .int 0, .long 0, .int 0, .int 0, .ref z10, .ref z11, .ref z12, .ref z13, .ref z14, .ref z15, .ref z16, .ref z17, .ref z18, .ref z19, .int 0, .int 0, .ref z22, .ref z23, .ref z24, .ref z25, .ref z26, .ref z27, .ref z28, .ref z29, .ref z30, .ref z31, .ref z32, .ref z33, .int 0, .long 0, .ref z36, .ref z37, .ref z38, .ref z39, .ref z40, .ref z41, .ref z42, .ref z43, .ref z44, .ref z45, .ref z46, .ref z47, .ref z48, .int 0, .int 10, .int 0, .int 0, .int 0, .int 0, .ref z55, .ref z56, .int 0, .int 0, .ref z59, .ref z60, .ref z61, .int 0, .long 0])), (z10, .inl (γ.2.1 0, 10, .inl fa))] (fun r w1 => r = some (.int 0) ∧ w1 = []) := by
  refine k_ofW (by decide) (Nat.le_of_ble_eq_true rfl) ?_
  intro p e s m below meth c A ls hC hr hlocks hname hw hl
  have hx := hC.1
  have hb := hC.2.1
  have hl : lv_has ls 4 [(0, .ref z), (1, .int t)] := hl
  refine lv_aload_n hx hb dX12_holders_0 rfl (lv_at hl 0 rfl) ?_
  refine lv_iconst (v := 0) hx hb dX12_holders_1 (by decide) ?_
  refine fs_RX12_143 hC hw 0 rfl rfl rfl (Nat.le_of_ble_eq_true rfl) dX12_holders_2 (fun H locs hw => ?_)
  have hw : kW γ A [(z, .inr (11, [.int 0, .int 0, .ref z2, .int 0, .int 0, .int 0, .int 0, .long 0, .int 0, .int 0, .ref z10, .ref z11, .ref z12, .ref z13, .ref z14, .ref z15, .ref z16, .ref z17, .ref z18, .ref z19, .int 0, .int 0, .ref z22, .ref z23, .ref z24, .ref z25, .ref z26, .ref z27, .ref z28, .ref z29, .ref z30, .ref z31, .ref z32, .ref z33, .int 0, .long 0, .ref z36, .ref z37, .ref z38, .ref z39, .ref z40, .ref z41, .ref z42, .ref z43, .ref z44, .ref z45, .ref z46, .ref z47, .ref z48, .int 0, .int 10, .int 0, .int 0, .int 0, .int 0, .ref z55, .ref z56, .int 0, .int 0, .ref z59, .ref z60, .ref z61, .int 0, .long 0])), (z10, .inl (γ.2.1 0, 10, .inl fa))] s H locs := hw
  refine lv_iload_n hx hb dX12_holders_5 rfl (lv_at hl 1 rfl) ?_
  refine lv_iconst (v := 1) hx hb dX12_holders_6 (by decide) ?_
  refine lv_bipush (v := 6) hx hb dX12_holders_7 (by decide) ?_
  refine k_S (wr := [(z, .inr (11, [.int 0, .int 0, .ref z2, .int 0, .int 0, .int 0, .int 0, .long 0, .int 0, .int 0, .ref z10, .ref z11, .ref z12, .ref z13, .ref z14, .ref z15, .ref z16, .ref z17, .ref z18, .ref z19, .int 0, .int 0, .ref z22, .ref z23, .ref z24, .ref z25, .ref z26, .ref z27, .ref z28, .ref z29, .ref z30, .ref z31, .ref z32, .ref z33, .int 0, .long 0, .ref z36, .ref z37, .ref z38, .ref z39, .ref z40, .ref z41, .ref z42, .ref z43, .ref z44, .ref z45, .ref z46, .ref z47, .ref z48, .int 0, .int 10, .int 0, .int 0, .int 0, .int 0, .ref z55, .ref z56, .int 0, .int 0, .ref z59, .ref z60, .ref z61, .int 0, .long 0])), (z10, .inl (γ.2.1 0, 10, .inl fa))]) 3 gw_1472 gw_1473 gw_15 gw_1474 hd_X12_within hC hw (c_within_t γ l t 1 6 h1 h2) ⟨by decide, by decide⟩ ⟨by decide, by decide⟩ hl.1 rfl rfl (Nat.le_of_ble_eq_true rfl) [] [0, 1] rfl rfl rfl rfl (by decide) dX12_holders_9 (fun r w1 H locs hq hw => ?_)
  obtain ⟨rfl, rfl⟩ := hq
  have hw : kW γ A [(z, .inr (11, [.int 0, .int 0, .ref z2, .int 0, .int 0, .int 0, .int 0, .long 0, .int 0, .int 0, .ref z10, .ref z11, .ref z12, .ref z13, .ref z14, .ref z15, .ref z16, .ref z17, .ref z18, .ref z19, .int 0, .int 0, .ref z22, .ref z23, .ref z24, .ref z25, .ref z26, .ref z27, .ref z28, .ref z29, .ref z30, .ref z31, .ref z32, .ref z33, .int 0, .long 0, .ref z36, .ref z37, .ref z38, .ref z39, .ref z40, .ref z41, .ref z42, .ref z43, .ref z44, .ref z45, .ref z46, .ref z47, .ref z48, .int 0, .int 10, .int 0, .int 0, .int 0, .int 0, .ref z55, .ref z56, .int 0, .int 0, .ref z59, .ref z60, .ref z61, .int 0, .long 0])), (z10, .inl (γ.2.1 0, 10, .inl fa))] s H locs := hw
  refine W.eq (g2 := F0 m 12 ls [.int 1]) rfl ?_
  refine lv_if_ne (tgt := 17) hx hb dX12_holders_12 (by decide) (fun _ => ?_) (fun h => absurd h (by decide))
  refine lv_iconst (v := 0) hx hb dX12_holders_17 (by decide) ?_
  refine lv_istore_n (lv' := [(2, .int 0), (0, .ref z), (1, .int t)]) hx hb dX12_holders_18 rfl hl (by decide) rfl (fun ls hl => ?_)
  refine lv_iconst (v := 0) hx hb dX12_holders_19 (by decide) ?_
  refine lv_istore_n (lv' := [(3, .int 0), (2, .int 0), (0, .ref z), (1, .int t)]) hx hb dX12_holders_20 rfl hl (by decide) rfl (fun ls hl => ?_)
  refine lv_iload_n hx hb dX12_holders_21 rfl (lv_at hl 0 rfl) ?_
  refine lv_aload_n hx hb dX12_holders_22 rfl (lv_at hl 2 rfl) ?_
  refine fg_RX12_13 hC hw 0 rfl rfl dX12_holders_23 ?_
  refine lv_iconst (v := 1) hx hb dX12_holders_26 (by decide) ?_
  refine k_iald hC hw 1 rfl (k_in0 (by decide)) dX12_holders_27 ?_
  refine lv_topi (fun x_1225 ex_1225 => ?_)
  obtain rfl : x_1225 = 0 := (show x_1225 = fa 1 from ex_1225).trans ha1
  refine lv_icmp_ge (tgt := 53) hx hb dX12_holders_28 (by decide) (fun _ => ?_) (fun h => absurd (by decide) h)
  refine lv_iload_n hx hb dX12_holders_53 rfl (lv_at hl 1 rfl) ?_
  exact k_iret hC hr hlocks hw [] rfl rfl ⟨rfl, rfl⟩ (by decide) (by decide) dX12_holders_54

set_option maxHeartbeats 4000000 in
set_option maxRecDepth 100000 in
theorem c_X12_thrown (γ : kΓ) (l : Launch) (z : Nat) (z2 : Nat) (z10 : Nat) (z11 : Nat) (z12 : Nat) (z13 : Nat) (z14 : Nat) (z15 : Nat) (z16 : Nat) (z17 : Nat) (z18 : Nat) (z19 : Nat) (z22 : Nat) (z23 : Nat) (z24 : Nat) (z25 : Nat) (z26 : Nat) (z27 : Nat) (z28 : Nat) (z29 : Nat) (z30 : Nat) (z31 : Nat) (z32 : Nat) (z33 : Nat) (z36 : Nat) (z37 : Nat) (z38 : Nat) (z39 : Nat) (z40 : Nat) (z41 : Nat) (z42 : Nat) (z43 : Nat) (z44 : Nat) (z45 : Nat) (z46 : Nat) (z47 : Nat) (z48 : Nat) (z55 : Nat) (z56 : Nat) (z59 : Nat) (z60 : Nat) (z61 : Nat) (n1 : Int32) (n3 : Int32) (n4 : Int32) (n5 : Int32) (n6 : Int32) (n7 : Int64) (n8 : Int32) (n9 : Int32) (n20 : Int32) (n21 : Int32) (n34 : Int32) (n35 : Int64) (n49 : Int32) (n50 : Int32) (n51 : Int32) (n52 : Int32) (n53 : Int32) (n54 : Int32) (n57 : Int32) (n58 : Int32) (n62 : Int32) (n63 : Int64) (th : Int32) : kM γ l yX12_thrown cX12_thrown 1 ((some .int)) ({ frames := 0, cells := 0, slots := 0, locals := 0 } : Room) [.ref z] [(z, .inr (11, [.int th, .int n1, .ref z2, .int n3, .int n4, .int n5, .int n6, .long n7, .int n8, .int n9, .ref z10, .ref z11, .ref z12, .ref z13, .ref z14, .ref z15, .ref z16, .ref z17, .ref z18, .ref z19, .int n20, .int n21, .ref z22, .ref z23, .ref z24, .ref z25, .ref z26, .ref z27, .ref z28, .ref z29, .ref z30, .ref z31, .ref z32, .ref z33, .int n34, .long n35, .ref z36, .ref z37, .ref z38, .ref z39, .ref z40, .ref z41, .ref z42, .ref z43, .ref z44, .ref z45, .ref z46, .ref z47, .ref z48, .int n49, .int n50, .int n51, .int n52, .int n53, .int n54, .ref z55, .ref z56, .int n57, .int n58, .ref z59, .ref z60, .ref z61, .int n62, .long n63]))] (fun r w1 => r = some (.int th) ∧ w1 = []) := by
  refine k_ofW (by decide) (Nat.le_of_ble_eq_true rfl) ?_
  intro p e s m below meth c A ls hC hr hlocks hname hw hl
  have hx := hC.1
  have hb := hC.2.1
  have hl : lv_has ls 1 [(0, .ref z)] := hl
  refine lv_aload_n hx hb dX12_thrown_0 rfl (lv_at hl 0 rfl) ?_
  refine fg_RX12_143 hC hw 0 rfl rfl dX12_thrown_1 ?_
  exact k_iret hC hr hlocks hw [] rfl rfl ⟨rfl, rfl⟩ (by decide) (by decide) dX12_thrown_4

set_option maxHeartbeats 4000000 in
set_option maxRecDepth 100000 in
theorem c_X12_best (γ : kΓ) (l : Launch) (z : Nat) (z2 : Nat) (z10 : Nat) (z11 : Nat) (z12 : Nat) (z13 : Nat) (z14 : Nat) (z15 : Nat) (z16 : Nat) (z17 : Nat) (z18 : Nat) (z19 : Nat) (z22 : Nat) (z23 : Nat) (z24 : Nat) (z25 : Nat) (z26 : Nat) (z27 : Nat) (z28 : Nat) (z29 : Nat) (z30 : Nat) (z31 : Nat) (z32 : Nat) (z33 : Nat) (z36 : Nat) (z37 : Nat) (z38 : Nat) (z39 : Nat) (z40 : Nat) (z41 : Nat) (z42 : Nat) (z43 : Nat) (z44 : Nat) (z45 : Nat) (z46 : Nat) (z47 : Nat) (z48 : Nat) (z55 : Nat) (z56 : Nat) (z59 : Nat) (z60 : Nat) (z61 : Nat) (fa : Nat → Int32) (t : Int32) (u : Int32) (v : Int32) (ha0 : fa 0 = 0) (ha1 : fa 1 = 0) (ha2 : fa 2 = 10) (ha3 : fa 3 = 10) (ha4 : fa 4 = 3) : kM γ l yX12_best cX12_best 4 ((some .int)) ({ frames := 1, cells := 0, slots := 0, locals := 21 } : Room) [.ref z, .int t, .int u, .int v] [(z, .inr (11, [.int 0, .int 0, .ref z2, .int 0, .int 0, .int 0, .int 0, .long 0, .int 0, .int 0, .ref z10, .ref z11, .ref z12, .ref z13, .ref z14, .ref z15, .ref z16, .ref z17, .ref z18, .ref z19, .int 0, .int 0, .ref z22, .ref z23, .ref z24, .ref z25, .ref z26, .ref z27, .ref z28, .ref z29, .ref z30, .ref z31, .ref z32, .ref z33, .int 0, .long 0, .ref z36, .ref z37, .ref z38, .ref z39, .ref z40, .ref z41, .ref z42, .ref z43, .ref z44, .ref z45, .ref z46, .ref z47, .ref z48, .int 0, .int 10, .int 0, .int 0, .int 0, .int 0, .ref z55, .ref z56, .int 0, .int 0, .ref z59, .ref z60, .ref z61, .int 0, .long 0])), (z10, .inl (γ.2.1 0, 10, .inl fa))] (fun r w1 => r = some (.int 0) ∧ w1 = [(z, .inr (11, [.int 1, .int 0, .ref z2, .int 0, .int 0, .int 0, .int 0, .long 0, .int 0, .int 0, .ref z10, .ref z11, .ref z12, .ref z13, .ref z14, .ref z15, .ref z16, .ref z17, .ref z18, .ref z19, .int 0, .int 0, .ref z22, .ref z23, .ref z24, .ref z25, .ref z26, .ref z27, .ref z28, .ref z29, .ref z30, .ref z31, .ref z32, .ref z33, .int 0, .long 0, .ref z36, .ref z37, .ref z38, .ref z39, .ref z40, .ref z41, .ref z42, .ref z43, .ref z44, .ref z45, .ref z46, .ref z47, .ref z48, .int 0, .int 10, .int 0, .int 0, .int 0, .int 0, .ref z55, .ref z56, .int 0, .int 0, .ref z59, .ref z60, .ref z61, .int 0, .long 0]))]) := by
  refine k_ofW (by decide) (Nat.le_of_ble_eq_true rfl) ?_
  intro p e s m below meth c A ls hC hr hlocks hname hw hl
  have hx := hC.1
  have hb := hC.2.1
  have hl : lv_has ls 4 [(0, .ref z), (1, .int t), (2, .int u), (3, .int v)] := hl
  refine lv_aload_n hx hb dX12_best_0 rfl (lv_at hl 0 rfl) ?_
  refine lv_aload_n hx hb dX12_best_1 rfl (lv_at hl 0 rfl) ?_
  refine lv_iload_n hx hb dX12_best_2 rfl (lv_at hl 1 rfl) ?_
  refine k_V (wr := []) 1 gw_1557 gw_1559 gp_80 gw_15 gw_1560 hd_X12_isTenant hC hw (c_X12_isTenant γ l z z2 z10 z11 z12 z13 z14 z15 z16 z17 z18 z19 z22 z23 z24 z25 z26 z27 z28 z29 z30 z31 z32 z33 z36 z37 z38 z39 z40 z41 z42 z43 z44 z45 z46 z47 z48 z55 z56 z59 z60 z61 fa t ha0 ha1 ha2 ha3 ha4) ⟨by decide, by decide⟩ ⟨by decide, by decide⟩ hl.1 rfl 0 rfl rfl rfl (Nat.le_of_ble_eq_true rfl) [0, 1] [] rfl rfl rfl rfl (by decide) dX12_best_3 (fun r w1 H locs hq hw => ?_)
  obtain ⟨rfl, rfl⟩ := hq
  have hw : kW γ A [(z, .inr (11, [.int 0, .int 0, .ref z2, .int 0, .int 0, .int 0, .int 0, .long 0, .int 0, .int 0, .ref z10, .ref z11, .ref z12, .ref z13, .ref z14, .ref z15, .ref z16, .ref z17, .ref z18, .ref z19, .int 0, .int 0, .ref z22, .ref z23, .ref z24, .ref z25, .ref z26, .ref z27, .ref z28, .ref z29, .ref z30, .ref z31, .ref z32, .ref z33, .int 0, .long 0, .ref z36, .ref z37, .ref z38, .ref z39, .ref z40, .ref z41, .ref z42, .ref z43, .ref z44, .ref z45, .ref z46, .ref z47, .ref z48, .int 0, .int 10, .int 0, .int 0, .int 0, .int 0, .ref z55, .ref z56, .int 0, .int 0, .ref z59, .ref z60, .ref z61, .int 0, .long 0])), (z10, .inl (γ.2.1 0, 10, .inl fa))] s H locs := hw
  refine W.eq (g2 := F0 m 6 ls [.int 0, .ref z]) rfl ?_
  refine lv_if_eq (tgt := 33) hx hb dX12_best_6 (by decide) (fun _ => ?_) (fun h => absurd (by decide) h)
  refine lv_iconst (v := 1) hx hb dX12_best_33 (by decide) ?_
  refine fs_RX12_143 hC hw 0 rfl rfl rfl (Nat.le_of_ble_eq_true rfl) dX12_best_34 (fun H locs hw => ?_)
  have hw : kW γ A [(z, .inr (11, [.int 1, .int 0, .ref z2, .int 0, .int 0, .int 0, .int 0, .long 0, .int 0, .int 0, .ref z10, .ref z11, .ref z12, .ref z13, .ref z14, .ref z15, .ref z16, .ref z17, .ref z18, .ref z19, .int 0, .int 0, .ref z22, .ref z23, .ref z24, .ref z25, .ref z26, .ref z27, .ref z28, .ref z29, .ref z30, .ref z31, .ref z32, .ref z33, .int 0, .long 0, .ref z36, .ref z37, .ref z38, .ref z39, .ref z40, .ref z41, .ref z42, .ref z43, .ref z44, .ref z45, .ref z46, .ref z47, .ref z48, .int 0, .int 10, .int 0, .int 0, .int 0, .int 0, .ref z55, .ref z56, .int 0, .int 0, .ref z59, .ref z60, .ref z61, .int 0, .long 0])), (z10, .inl (γ.2.1 0, 10, .inl fa))] s H locs := hw
  refine lv_aload_n hx hb dX12_best_37 rfl (lv_at hl 0 rfl) ?_
  refine fg_RX12_143 hC hw 0 rfl rfl dX12_best_38 ?_
  refine lv_iconst (v := 1) hx hb dX12_best_41 (by decide) ?_
  refine lv_icmp_ne (tgt := 47) hx hb dX12_best_42 (by decide) (fun h => absurd rfl h) (fun _ => ?_)
  refine lv_iconst (v := 0) hx hb dX12_best_45 (by decide) ?_
  exact k_iret hC hr hlocks hw [0] rfl rfl ⟨rfl, rfl⟩ (by decide) (by decide) dX12_best_46

set_option maxHeartbeats 4000000 in
set_option maxRecDepth 100000 in
theorem c_X12_matches (γ : kΓ) (l : Launch) (z : Nat) (z2 : Nat) (z10 : Nat) (z11 : Nat) (z12 : Nat) (z13 : Nat) (z14 : Nat) (z15 : Nat) (z16 : Nat) (z17 : Nat) (z18 : Nat) (z19 : Nat) (z22 : Nat) (z23 : Nat) (z24 : Nat) (z25 : Nat) (z26 : Nat) (z27 : Nat) (z28 : Nat) (z29 : Nat) (z30 : Nat) (z31 : Nat) (z32 : Nat) (z33 : Nat) (z36 : Nat) (z37 : Nat) (z38 : Nat) (z39 : Nat) (z40 : Nat) (z41 : Nat) (z42 : Nat) (z43 : Nat) (z44 : Nat) (z45 : Nat) (z46 : Nat) (z47 : Nat) (z48 : Nat) (z55 : Nat) (z56 : Nat) (z59 : Nat) (z60 : Nat) (z61 : Nat) (fa : Nat → Int32) (fw : Nat → Int32) (fb : Nat → Int32) (ha0 : fa 0 = 0) (ha1 : fa 1 = 0) (ha2 : fa 2 = 10) (ha3 : fa 3 = 10) (ha4 : fa 4 = 3) : kM γ l yX12_matches cX12_matches 6 none ({ frames := 0, cells := 0, slots := 0, locals := 0 } : Room) [.ref z, .int 0, .int 0, .int 0] [(z, .inr (11, [.int 0, .int 0, .ref z2, .int 0, .int 0, .int 0, .int 0, .long 0, .int 0, .int 0, .ref z10, .ref z11, .ref z12, .ref z13, .ref z14, .ref z15, .ref z16, .ref z17, .ref z18, .ref z19, .int 0, .int 0, .ref z22, .ref z23, .ref z24, .ref z25, .ref z26, .ref z27, .ref z28, .ref z29, .ref z30, .ref z31, .ref z32, .ref z33, .int 0, .long 0, .ref z36, .ref z37, .ref z38, .ref z39, .ref z40, .ref z41, .ref z42, .ref z43, .ref z44, .ref z45, .ref z46, .ref z47, .ref z48, .int 0, .int 10, .int 0, .int 0, .int 0, .int 0, .ref z55, .ref z56, .int 0, .int 0, .ref z59, .ref z60, .ref z61, .int (-1), .long 0])), (z10, .inl (γ.2.1 0, 10, .inl fa)), (z60, .inl (γ.2.1 0, 5, .inl fw)), (z61, .inl (γ.2.1 0, 5, .inl fb))] (fun r w1 => r = none ∧ w1 = [(z, .inr (11, [.int 0, .int 0, .ref z2, .int 0, .int 0, .int 0, .int 0, .long 0, .int 0, .int 0, .ref z10, .ref z11, .ref z12, .ref z13, .ref z14, .ref z15, .ref z16, .ref z17, .ref z18, .ref z19, .int 0, .int 0, .ref z22, .ref z23, .ref z24, .ref z25, .ref z26, .ref z27, .ref z28, .ref z29, .ref z30, .ref z31, .ref z32, .ref z33, .int 0, .long 0, .ref z36, .ref z37, .ref z38, .ref z39, .ref z40, .ref z41, .ref z42, .ref z43, .ref z44, .ref z45, .ref z46, .ref z47, .ref z48, .int 0, .int 10, .int 0, .int 0, .int 0, .int 0, .ref z55, .ref z56, .int 0, .int 0, .ref z59, .ref z60, .ref z61, .int 0, .long 0]))]) := by
  refine k_ofW (by decide) (Nat.le_of_ble_eq_true rfl) ?_
  intro p e s m below meth c A ls hC hr hlocks hname hw hl
  have hx := hC.1
  have hb := hC.2.1
  have hl : lv_has ls 6 [(0, .ref z), (1, .int 0), (2, .int 0), (3, .int 0)] := hl
  refine lv_iload_n hx hb dX12_matches_0 rfl (lv_at hl 1 rfl) ?_
  refine lv_istore (lv' := [(4, .int 0), (0, .ref z), (1, .int 0), (2, .int 0), (3, .int 0)]) hx hb dX12_matches_1 hl (by decide) rfl (fun ls hl => ?_)
  refine lv_iload hx hb dX12_matches_3 (lv_at hl 0 rfl) ?_
  refine lv_aload_n hx hb dX12_matches_5 rfl (lv_at hl 1 rfl) ?_
  refine fg_RX12_13 hC hw 0 rfl rfl dX12_matches_6 ?_
  refine lv_iconst (v := 1) hx hb dX12_matches_9 (by decide) ?_
  refine k_iald hC hw 1 rfl (k_in0 (by decide)) dX12_matches_10 ?_
  refine lv_topi (fun x_1226 ex_1226 => ?_)
  obtain rfl : x_1226 = 0 := (show x_1226 = fa 1 from ex_1226).trans ha1
  refine lv_icmp_ge (tgt := 30) hx hb dX12_matches_11 (by decide) (fun _ => ?_) (fun h => absurd (by decide) h)
  refine lv_iload hx hb dX12_matches_30 (lv_at hl 0 rfl) ?_
  refine lv_aload_n hx hb dX12_matches_32 rfl (lv_at hl 1 rfl) ?_
  refine fg_RX12_13 hC hw 0 rfl rfl dX12_matches_33 ?_
  refine lv_iconst (v := 1) hx hb dX12_matches_36 (by decide) ?_
  refine k_iald hC hw 1 rfl (k_in0 (by decide)) dX12_matches_37 ?_
  refine lv_topi (fun x_1227 ex_1227 => ?_)
  obtain rfl : x_1227 = 0 := (show x_1227 = fa 1 from ex_1227).trans ha1
  refine lv_icmp_lt (tgt := 85) hx hb dX12_matches_38 (by decide) (fun h => absurd h (by decide)) (fun _ => ?_)
  refine lv_iload_n hx hb dX12_matches_41 rfl (lv_at hl 4 rfl) ?_
  refine lv_aload_n hx hb dX12_matches_42 rfl (lv_at hl 1 rfl) ?_
  refine fg_RX12_465 hC hw 0 rfl rfl dX12_matches_43 ?_
  refine lv_icmp_gt (tgt := 50) hx hb dX12_matches_46 (by decide) (fun _ => ?_) (fun h => absurd (by decide) h)
  refine lv_aload_n hx hb dX12_matches_50 rfl (lv_at hl 1 rfl) ?_
  refine lv_iload_n hx hb dX12_matches_51 rfl (lv_at hl 4 rfl) ?_
  refine fs_RX12_465 hC hw 0 rfl rfl rfl (Nat.le_of_ble_eq_true rfl) dX12_matches_52 (fun H locs hw => ?_)
  have hw : kW γ A [(z, .inr (11, [.int 0, .int 0, .ref z2, .int 0, .int 0, .int 0, .int 0, .long 0, .int 0, .int 0, .ref z10, .ref z11, .ref z12, .ref z13, .ref z14, .ref z15, .ref z16, .ref z17, .ref z18, .ref z19, .int 0, .int 0, .ref z22, .ref z23, .ref z24, .ref z25, .ref z26, .ref z27, .ref z28, .ref z29, .ref z30, .ref z31, .ref z32, .ref z33, .int 0, .long 0, .ref z36, .ref z37, .ref z38, .ref z39, .ref z40, .ref z41, .ref z42, .ref z43, .ref z44, .ref z45, .ref z46, .ref z47, .ref z48, .int 0, .int 10, .int 0, .int 0, .int 0, .int 0, .ref z55, .ref z56, .int 0, .int 0, .ref z59, .ref z60, .ref z61, .int 0, .long 0])), (z10, .inl (γ.2.1 0, 10, .inl fa)), (z60, .inl (γ.2.1 0, 5, .inl fw)), (z61, .inl (γ.2.1 0, 5, .inl fb))] s H locs := hw
  refine lv_iconst (v := 0) hx hb dX12_matches_55 (by decide) ?_
  refine lv_istore (lv' := [(5, .int 0), (4, .int 0), (0, .ref z), (1, .int 0), (2, .int 0), (3, .int 0)]) hx hb dX12_matches_56 hl (by decide) rfl (fun ls hl => ?_)
  refine lv_iload hx hb dX12_matches_58 (lv_at hl 0 rfl) ?_
  refine lv_iconst (v := 5) hx hb dX12_matches_60 (by decide) ?_
  refine lv_icmp_ge (tgt := 84) hx hb dX12_matches_61 (by decide) (fun h => absurd h (by decide)) (fun _ => ?_)
  refine lv_aload_n hx hb dX12_matches_64 rfl (lv_at hl 2 rfl) ?_
  refine fg_RX12_136 hC hw 0 rfl rfl dX12_matches_65 ?_
  refine lv_iload hx hb dX12_matches_68 (lv_at hl 0 rfl) ?_
  refine lv_aload_n hx hb dX12_matches_70 rfl (lv_at hl 2 rfl) ?_
  refine fg_RX12_133 hC hw 0 rfl rfl dX12_matches_71 ?_
  refine lv_iload hx hb dX12_matches_74 (lv_at hl 0 rfl) ?_
  refine k_iald hC hw 2 rfl (k_in0 (by decide)) dX12_matches_76 ?_
  refine lv_topi (fun x_1228 ex_1228 => ?_)
  refine k_iast hC hw 3 rfl (k_in0 (by decide)) dX12_matches_77 (fun H locs hw => ?_)
  obtain ⟨f_1229, ef_1229⟩ : ∃ g, g = upd fb (0 : Int32).toNatClampNeg x_1228 := ⟨_, rfl⟩
  have hw : kW γ A [(z, .inr (11, [.int 0, .int 0, .ref z2, .int 0, .int 0, .int 0, .int 0, .long 0, .int 0, .int 0, .ref z10, .ref z11, .ref z12, .ref z13, .ref z14, .ref z15, .ref z16, .ref z17, .ref z18, .ref z19, .int 0, .int 0, .ref z22, .ref z23, .ref z24, .ref z25, .ref z26, .ref z27, .ref z28, .ref z29, .ref z30, .ref z31, .ref z32, .ref z33, .int 0, .long 0, .ref z36, .ref z37, .ref z38, .ref z39, .ref z40, .ref z41, .ref z42, .ref z43, .ref z44, .ref z45, .ref z46, .ref z47, .ref z48, .int 0, .int 10, .int 0, .int 0, .int 0, .int 0, .ref z55, .ref z56, .int 0, .int 0, .ref z59, .ref z60, .ref z61, .int 0, .long 0])), (z10, .inl (γ.2.1 0, 10, .inl fa)), (z60, .inl (γ.2.1 0, 5, .inl fw)), (z61, .inl (γ.2.1 0, 5, .inl f_1229))] s H locs := by rw [ef_1229]; exact hw
  have h_1230 : f_1229 0 = x_1228 := by rw [ef_1229]; rfl
  refine lv_iinc (v := 1) (lv' := [(5, .int 1), (4, .int 0), (0, .ref z), (1, .int 0), (2, .int 0), (3, .int 0)]) hx hb dX12_matches_78 hl (k := 0) rfl (by decide) (by decide) rfl (fun ls hl => ?_)
  refine lv_goto (tgt := 58) hx hb dX12_matches_81 (by decide) ?_
  refine lv_iload hx hb dX12_matches_58 (lv_at hl 0 rfl) ?_
  refine lv_iconst (v := 5) hx hb dX12_matches_60 (by decide) ?_
  refine lv_icmp_ge (tgt := 84) hx hb dX12_matches_61 (by decide) (fun h => absurd h (by decide)) (fun _ => ?_)
  refine lv_aload_n hx hb dX12_matches_64 rfl (lv_at hl 2 rfl) ?_
  refine fg_RX12_136 hC hw 0 rfl rfl dX12_matches_65 ?_
  refine lv_iload hx hb dX12_matches_68 (lv_at hl 0 rfl) ?_
  refine lv_aload_n hx hb dX12_matches_70 rfl (lv_at hl 2 rfl) ?_
  refine fg_RX12_133 hC hw 0 rfl rfl dX12_matches_71 ?_
  refine lv_iload hx hb dX12_matches_74 (lv_at hl 0 rfl) ?_
  refine k_iald hC hw 2 rfl (k_in0 (by decide)) dX12_matches_76 ?_
  refine lv_topi (fun x_1231 ex_1231 => ?_)
  refine k_iast hC hw 3 rfl (k_in0 (by decide)) dX12_matches_77 (fun H locs hw => ?_)
  obtain ⟨f_1232, ef_1232⟩ : ∃ g, g = upd f_1229 (1 : Int32).toNatClampNeg x_1231 := ⟨_, rfl⟩
  have hw : kW γ A [(z, .inr (11, [.int 0, .int 0, .ref z2, .int 0, .int 0, .int 0, .int 0, .long 0, .int 0, .int 0, .ref z10, .ref z11, .ref z12, .ref z13, .ref z14, .ref z15, .ref z16, .ref z17, .ref z18, .ref z19, .int 0, .int 0, .ref z22, .ref z23, .ref z24, .ref z25, .ref z26, .ref z27, .ref z28, .ref z29, .ref z30, .ref z31, .ref z32, .ref z33, .int 0, .long 0, .ref z36, .ref z37, .ref z38, .ref z39, .ref z40, .ref z41, .ref z42, .ref z43, .ref z44, .ref z45, .ref z46, .ref z47, .ref z48, .int 0, .int 10, .int 0, .int 0, .int 0, .int 0, .ref z55, .ref z56, .int 0, .int 0, .ref z59, .ref z60, .ref z61, .int 0, .long 0])), (z10, .inl (γ.2.1 0, 10, .inl fa)), (z60, .inl (γ.2.1 0, 5, .inl fw)), (z61, .inl (γ.2.1 0, 5, .inl f_1232))] s H locs := by rw [ef_1232]; exact hw
  have h_1233 : f_1232 0 = x_1228 := by rw [ef_1232]; exact h_1230
  have h_1234 : f_1232 1 = x_1231 := by rw [ef_1232]; rfl
  refine lv_iinc (v := 2) (lv' := [(5, .int 2), (4, .int 0), (0, .ref z), (1, .int 0), (2, .int 0), (3, .int 0)]) hx hb dX12_matches_78 hl (k := 0) rfl (by decide) (by decide) rfl (fun ls hl => ?_)
  refine lv_goto (tgt := 58) hx hb dX12_matches_81 (by decide) ?_
  refine lv_iload hx hb dX12_matches_58 (lv_at hl 0 rfl) ?_
  refine lv_iconst (v := 5) hx hb dX12_matches_60 (by decide) ?_
  refine lv_icmp_ge (tgt := 84) hx hb dX12_matches_61 (by decide) (fun h => absurd h (by decide)) (fun _ => ?_)
  refine lv_aload_n hx hb dX12_matches_64 rfl (lv_at hl 2 rfl) ?_
  refine fg_RX12_136 hC hw 0 rfl rfl dX12_matches_65 ?_
  refine lv_iload hx hb dX12_matches_68 (lv_at hl 0 rfl) ?_
  refine lv_aload_n hx hb dX12_matches_70 rfl (lv_at hl 2 rfl) ?_
  refine fg_RX12_133 hC hw 0 rfl rfl dX12_matches_71 ?_
  refine lv_iload hx hb dX12_matches_74 (lv_at hl 0 rfl) ?_
  refine k_iald hC hw 2 rfl (k_in0 (by decide)) dX12_matches_76 ?_
  refine lv_topi (fun x_1235 ex_1235 => ?_)
  refine k_iast hC hw 3 rfl (k_in0 (by decide)) dX12_matches_77 (fun H locs hw => ?_)
  obtain ⟨f_1236, ef_1236⟩ : ∃ g, g = upd f_1232 (2 : Int32).toNatClampNeg x_1235 := ⟨_, rfl⟩
  have hw : kW γ A [(z, .inr (11, [.int 0, .int 0, .ref z2, .int 0, .int 0, .int 0, .int 0, .long 0, .int 0, .int 0, .ref z10, .ref z11, .ref z12, .ref z13, .ref z14, .ref z15, .ref z16, .ref z17, .ref z18, .ref z19, .int 0, .int 0, .ref z22, .ref z23, .ref z24, .ref z25, .ref z26, .ref z27, .ref z28, .ref z29, .ref z30, .ref z31, .ref z32, .ref z33, .int 0, .long 0, .ref z36, .ref z37, .ref z38, .ref z39, .ref z40, .ref z41, .ref z42, .ref z43, .ref z44, .ref z45, .ref z46, .ref z47, .ref z48, .int 0, .int 10, .int 0, .int 0, .int 0, .int 0, .ref z55, .ref z56, .int 0, .int 0, .ref z59, .ref z60, .ref z61, .int 0, .long 0])), (z10, .inl (γ.2.1 0, 10, .inl fa)), (z60, .inl (γ.2.1 0, 5, .inl fw)), (z61, .inl (γ.2.1 0, 5, .inl f_1236))] s H locs := by rw [ef_1236]; exact hw
  have h_1237 : f_1236 0 = x_1228 := by rw [ef_1236]; exact h_1233
  have h_1238 : f_1236 1 = x_1231 := by rw [ef_1236]; exact h_1234
  have h_1239 : f_1236 2 = x_1235 := by rw [ef_1236]; rfl
  refine lv_iinc (v := 3) (lv' := [(5, .int 3), (4, .int 0), (0, .ref z), (1, .int 0), (2, .int 0), (3, .int 0)]) hx hb dX12_matches_78 hl (k := 0) rfl (by decide) (by decide) rfl (fun ls hl => ?_)
  refine lv_goto (tgt := 58) hx hb dX12_matches_81 (by decide) ?_
  refine lv_iload hx hb dX12_matches_58 (lv_at hl 0 rfl) ?_
  refine lv_iconst (v := 5) hx hb dX12_matches_60 (by decide) ?_
  refine lv_icmp_ge (tgt := 84) hx hb dX12_matches_61 (by decide) (fun h => absurd h (by decide)) (fun _ => ?_)
  refine lv_aload_n hx hb dX12_matches_64 rfl (lv_at hl 2 rfl) ?_
  refine fg_RX12_136 hC hw 0 rfl rfl dX12_matches_65 ?_
  refine lv_iload hx hb dX12_matches_68 (lv_at hl 0 rfl) ?_
  refine lv_aload_n hx hb dX12_matches_70 rfl (lv_at hl 2 rfl) ?_
  refine fg_RX12_133 hC hw 0 rfl rfl dX12_matches_71 ?_
  refine lv_iload hx hb dX12_matches_74 (lv_at hl 0 rfl) ?_
  refine k_iald hC hw 2 rfl (k_in0 (by decide)) dX12_matches_76 ?_
  refine lv_topi (fun x_1240 ex_1240 => ?_)
  refine k_iast hC hw 3 rfl (k_in0 (by decide)) dX12_matches_77 (fun H locs hw => ?_)
  obtain ⟨f_1241, ef_1241⟩ : ∃ g, g = upd f_1236 (3 : Int32).toNatClampNeg x_1240 := ⟨_, rfl⟩
  have hw : kW γ A [(z, .inr (11, [.int 0, .int 0, .ref z2, .int 0, .int 0, .int 0, .int 0, .long 0, .int 0, .int 0, .ref z10, .ref z11, .ref z12, .ref z13, .ref z14, .ref z15, .ref z16, .ref z17, .ref z18, .ref z19, .int 0, .int 0, .ref z22, .ref z23, .ref z24, .ref z25, .ref z26, .ref z27, .ref z28, .ref z29, .ref z30, .ref z31, .ref z32, .ref z33, .int 0, .long 0, .ref z36, .ref z37, .ref z38, .ref z39, .ref z40, .ref z41, .ref z42, .ref z43, .ref z44, .ref z45, .ref z46, .ref z47, .ref z48, .int 0, .int 10, .int 0, .int 0, .int 0, .int 0, .ref z55, .ref z56, .int 0, .int 0, .ref z59, .ref z60, .ref z61, .int 0, .long 0])), (z10, .inl (γ.2.1 0, 10, .inl fa)), (z60, .inl (γ.2.1 0, 5, .inl fw)), (z61, .inl (γ.2.1 0, 5, .inl f_1241))] s H locs := by rw [ef_1241]; exact hw
  have h_1242 : f_1241 0 = x_1228 := by rw [ef_1241]; exact h_1237
  have h_1243 : f_1241 1 = x_1231 := by rw [ef_1241]; exact h_1238
  have h_1244 : f_1241 2 = x_1235 := by rw [ef_1241]; exact h_1239
  have h_1245 : f_1241 3 = x_1240 := by rw [ef_1241]; rfl
  refine lv_iinc (v := 4) (lv' := [(5, .int 4), (4, .int 0), (0, .ref z), (1, .int 0), (2, .int 0), (3, .int 0)]) hx hb dX12_matches_78 hl (k := 0) rfl (by decide) (by decide) rfl (fun ls hl => ?_)
  refine lv_goto (tgt := 58) hx hb dX12_matches_81 (by decide) ?_
  refine lv_iload hx hb dX12_matches_58 (lv_at hl 0 rfl) ?_
  refine lv_iconst (v := 5) hx hb dX12_matches_60 (by decide) ?_
  refine lv_icmp_ge (tgt := 84) hx hb dX12_matches_61 (by decide) (fun h => absurd h (by decide)) (fun _ => ?_)
  refine lv_aload_n hx hb dX12_matches_64 rfl (lv_at hl 2 rfl) ?_
  refine fg_RX12_136 hC hw 0 rfl rfl dX12_matches_65 ?_
  refine lv_iload hx hb dX12_matches_68 (lv_at hl 0 rfl) ?_
  refine lv_aload_n hx hb dX12_matches_70 rfl (lv_at hl 2 rfl) ?_
  refine fg_RX12_133 hC hw 0 rfl rfl dX12_matches_71 ?_
  refine lv_iload hx hb dX12_matches_74 (lv_at hl 0 rfl) ?_
  refine k_iald hC hw 2 rfl (k_in0 (by decide)) dX12_matches_76 ?_
  refine lv_topi (fun x_1246 ex_1246 => ?_)
  refine k_iast hC hw 3 rfl (k_in0 (by decide)) dX12_matches_77 (fun H locs hw => ?_)
  obtain ⟨f_1247, ef_1247⟩ : ∃ g, g = upd f_1241 (4 : Int32).toNatClampNeg x_1246 := ⟨_, rfl⟩
  have hw : kW γ A [(z, .inr (11, [.int 0, .int 0, .ref z2, .int 0, .int 0, .int 0, .int 0, .long 0, .int 0, .int 0, .ref z10, .ref z11, .ref z12, .ref z13, .ref z14, .ref z15, .ref z16, .ref z17, .ref z18, .ref z19, .int 0, .int 0, .ref z22, .ref z23, .ref z24, .ref z25, .ref z26, .ref z27, .ref z28, .ref z29, .ref z30, .ref z31, .ref z32, .ref z33, .int 0, .long 0, .ref z36, .ref z37, .ref z38, .ref z39, .ref z40, .ref z41, .ref z42, .ref z43, .ref z44, .ref z45, .ref z46, .ref z47, .ref z48, .int 0, .int 10, .int 0, .int 0, .int 0, .int 0, .ref z55, .ref z56, .int 0, .int 0, .ref z59, .ref z60, .ref z61, .int 0, .long 0])), (z10, .inl (γ.2.1 0, 10, .inl fa)), (z60, .inl (γ.2.1 0, 5, .inl fw)), (z61, .inl (γ.2.1 0, 5, .inl f_1247))] s H locs := by rw [ef_1247]; exact hw
  have h_1248 : f_1247 0 = x_1228 := by rw [ef_1247]; exact h_1242
  have h_1249 : f_1247 1 = x_1231 := by rw [ef_1247]; exact h_1243
  have h_1250 : f_1247 2 = x_1235 := by rw [ef_1247]; exact h_1244
  have h_1251 : f_1247 3 = x_1240 := by rw [ef_1247]; exact h_1245
  have h_1252 : f_1247 4 = x_1246 := by rw [ef_1247]; rfl
  refine lv_iinc (v := 5) (lv' := [(5, .int 5), (4, .int 0), (0, .ref z), (1, .int 0), (2, .int 0), (3, .int 0)]) hx hb dX12_matches_78 hl (k := 0) rfl (by decide) (by decide) rfl (fun ls hl => ?_)
  refine lv_goto (tgt := 58) hx hb dX12_matches_81 (by decide) ?_
  refine lv_iload hx hb dX12_matches_58 (lv_at hl 0 rfl) ?_
  refine lv_iconst (v := 5) hx hb dX12_matches_60 (by decide) ?_
  refine lv_icmp_ge (tgt := 84) hx hb dX12_matches_61 (by decide) (fun _ => ?_) (fun h => absurd (by decide) h)
  exact k_vret hC hr hlocks hw [0] rfl rfl ⟨rfl, rfl⟩ (by decide) (by decide) dX12_matches_84

set_option maxHeartbeats 4000000 in
set_option maxRecDepth 100000 in
theorem c_X12_match_n (γ : kΓ) (l : Launch) (z : Nat) (z2 : Nat) (z10 : Nat) (z11 : Nat) (z12 : Nat) (z13 : Nat) (z14 : Nat) (z15 : Nat) (z16 : Nat) (z17 : Nat) (z18 : Nat) (z19 : Nat) (z22 : Nat) (z23 : Nat) (z24 : Nat) (z25 : Nat) (z26 : Nat) (z27 : Nat) (z28 : Nat) (z29 : Nat) (z30 : Nat) (z31 : Nat) (z32 : Nat) (z33 : Nat) (z36 : Nat) (z37 : Nat) (z38 : Nat) (z39 : Nat) (z40 : Nat) (z41 : Nat) (z42 : Nat) (z43 : Nat) (z44 : Nat) (z45 : Nat) (z46 : Nat) (z47 : Nat) (z48 : Nat) (z55 : Nat) (z56 : Nat) (z59 : Nat) (z60 : Nat) (z61 : Nat) (fa : Nat → Int32) (fw : Nat → Int32) (fb : Nat → Int32) (ha0 : fa 0 = 0) (ha1 : fa 1 = 0) (ha2 : fa 2 = 10) (ha3 : fa 3 = 10) (ha4 : fa 4 = 3) : kM γ l yX12_match cX12_match 2 ((some .int)) ({ frames := 1, cells := 0, slots := 0, locals := 25 } : Room) [.ref z, .int (-1)] [(z, .inr (11, [.int 0, .int 0, .ref z2, .int 0, .int 0, .int 0, .int 0, .long 0, .int 0, .int 0, .ref z10, .ref z11, .ref z12, .ref z13, .ref z14, .ref z15, .ref z16, .ref z17, .ref z18, .ref z19, .int 0, .int 0, .ref z22, .ref z23, .ref z24, .ref z25, .ref z26, .ref z27, .ref z28, .ref z29, .ref z30, .ref z31, .ref z32, .ref z33, .int 0, .long 0, .ref z36, .ref z37, .ref z38, .ref z39, .ref z40, .ref z41, .ref z42, .ref z43, .ref z44, .ref z45, .ref z46, .ref z47, .ref z48, .int 0, .int 10, .int 0, .int 0, .int 0, .int 0, .ref z55, .ref z56, .int 0, .int 0, .ref z59, .ref z60, .ref z61, .int 0, .long 0])), (z10, .inl (γ.2.1 0, 10, .inl fa)), (z60, .inl (γ.2.1 0, 5, .inl fw)), (z61, .inl (γ.2.1 0, 5, .inl fb))] (fun r w1 => r = some (.int 0) ∧ w1 = []) := by
  refine k_ofW (by decide) (Nat.le_of_ble_eq_true rfl) ?_
  intro p e s m below meth c A ls hC hr hlocks hname hw hl
  have hx := hC.1
  have hb := hC.2.1
  have hl : lv_has ls 2 [(0, .ref z), (1, .int (-1))] := hl
  refine lv_aload_n hx hb dX12_match_0 rfl (lv_at hl 0 rfl) ?_
  refine lv_iconst (v := 0) hx hb dX12_match_1 (by decide) ?_
  refine fs_RX12_143 hC hw 0 rfl rfl rfl (Nat.le_of_ble_eq_true rfl) dX12_match_2 (fun H locs hw => ?_)
  have hw : kW γ A [(z, .inr (11, [.int 0, .int 0, .ref z2, .int 0, .int 0, .int 0, .int 0, .long 0, .int 0, .int 0, .ref z10, .ref z11, .ref z12, .ref z13, .ref z14, .ref z15, .ref z16, .ref z17, .ref z18, .ref z19, .int 0, .int 0, .ref z22, .ref z23, .ref z24, .ref z25, .ref z26, .ref z27, .ref z28, .ref z29, .ref z30, .ref z31, .ref z32, .ref z33, .int 0, .long 0, .ref z36, .ref z37, .ref z38, .ref z39, .ref z40, .ref z41, .ref z42, .ref z43, .ref z44, .ref z45, .ref z46, .ref z47, .ref z48, .int 0, .int 10, .int 0, .int 0, .int 0, .int 0, .ref z55, .ref z56, .int 0, .int 0, .ref z59, .ref z60, .ref z61, .int 0, .long 0])), (z10, .inl (γ.2.1 0, 10, .inl fa)), (z60, .inl (γ.2.1 0, 5, .inl fw)), (z61, .inl (γ.2.1 0, 5, .inl fb))] s H locs := hw
  refine lv_iload_n hx hb dX12_match_5 rfl (lv_at hl 1 rfl) ?_
  refine lv_iconst (v := (-1)) hx hb dX12_match_6 (by decide) ?_
  refine lv_icmp_eq (tgt := 21) hx hb dX12_match_7 (by decide) (fun _ => ?_) (fun h => absurd (by decide) h)
  refine lv_aload_n hx hb dX12_match_21 rfl (lv_at hl 0 rfl) ?_
  refine lv_iconst (v := (-1)) hx hb dX12_match_22 (by decide) ?_
  refine fs_RX12_465 hC hw 0 rfl rfl rfl (Nat.le_of_ble_eq_true rfl) dX12_match_23 (fun H locs hw => ?_)
  have hw : kW γ A [(z, .inr (11, [.int 0, .int 0, .ref z2, .int 0, .int 0, .int 0, .int 0, .long 0, .int 0, .int 0, .ref z10, .ref z11, .ref z12, .ref z13, .ref z14, .ref z15, .ref z16, .ref z17, .ref z18, .ref z19, .int 0, .int 0, .ref z22, .ref z23, .ref z24, .ref z25, .ref z26, .ref z27, .ref z28, .ref z29, .ref z30, .ref z31, .ref z32, .ref z33, .int 0, .long 0, .ref z36, .ref z37, .ref z38, .ref z39, .ref z40, .ref z41, .ref z42, .ref z43, .ref z44, .ref z45, .ref z46, .ref z47, .ref z48, .int 0, .int 10, .int 0, .int 0, .int 0, .int 0, .ref z55, .ref z56, .int 0, .int 0, .ref z59, .ref z60, .ref z61, .int (-1), .long 0])), (z10, .inl (γ.2.1 0, 10, .inl fa)), (z60, .inl (γ.2.1 0, 5, .inl fw)), (z61, .inl (γ.2.1 0, 5, .inl fb))] s H locs := hw
  refine lv_aload_n hx hb dX12_match_26 rfl (lv_at hl 0 rfl) ?_
  refine lv_iconst (v := 0) hx hb dX12_match_27 (by decide) ?_
  refine lv_iconst (v := 0) hx hb dX12_match_28 (by decide) ?_
  refine lv_iconst (v := 0) hx hb dX12_match_29 (by decide) ?_
  refine k_V (wr := []) 3 gw_1752 gw_1754 gp_108 gw_15 gw_1755 hd_X12_matches hC hw (c_X12_matches γ l z z2 z10 z11 z12 z13 z14 z15 z16 z17 z18 z19 z22 z23 z24 z25 z26 z27 z28 z29 z30 z31 z32 z33 z36 z37 z38 z39 z40 z41 z42 z43 z44 z45 z46 z47 z48 z55 z56 z59 z60 z61 fa fw fb ha0 ha1 ha2 ha3 ha4) ⟨by decide, by decide⟩ ⟨by decide, by decide⟩ hl.1 rfl 0 rfl rfl rfl (Nat.le_of_ble_eq_true rfl) [0, 1, 2, 3] [] rfl rfl rfl rfl (by decide) dX12_match_30 (fun r w1 H locs hq hw => ?_)
  obtain ⟨rfl, rfl⟩ := hq
  have hw : kW γ A [(z, .inr (11, [.int 0, .int 0, .ref z2, .int 0, .int 0, .int 0, .int 0, .long 0, .int 0, .int 0, .ref z10, .ref z11, .ref z12, .ref z13, .ref z14, .ref z15, .ref z16, .ref z17, .ref z18, .ref z19, .int 0, .int 0, .ref z22, .ref z23, .ref z24, .ref z25, .ref z26, .ref z27, .ref z28, .ref z29, .ref z30, .ref z31, .ref z32, .ref z33, .int 0, .long 0, .ref z36, .ref z37, .ref z38, .ref z39, .ref z40, .ref z41, .ref z42, .ref z43, .ref z44, .ref z45, .ref z46, .ref z47, .ref z48, .int 0, .int 10, .int 0, .int 0, .int 0, .int 0, .ref z55, .ref z56, .int 0, .int 0, .ref z59, .ref z60, .ref z61, .int 0, .long 0]))] s H locs := hw
  refine W.eq (g2 := F0 m 33 ls []) rfl ?_
  refine lv_iload_n hx hb dX12_match_33 rfl (lv_at hl 1 rfl) ?_
  refine lv_iconst (v := (-1)) hx hb dX12_match_34 (by decide) ?_
  refine lv_icmp_ne (tgt := 45) hx hb dX12_match_35 (by decide) (fun h => absurd rfl h) (fun _ => ?_)
  refine lv_aload_n hx hb dX12_match_38 rfl (lv_at hl 0 rfl) ?_
  refine fg_RX12_465 hC hw 0 rfl rfl dX12_match_39 ?_
  refine lv_goto (tgt := 51) hx hb dX12_match_42 (by decide) ?_
  exact k_iret hC hr hlocks hw [] rfl rfl ⟨rfl, rfl⟩ (by decide) (by decide) dX12_match_51

set_option maxHeartbeats 4000000 in
set_option maxRecDepth 100000 in
theorem c_X12_match_o (γ : kΓ) (l : Launch) (z : Nat) (z2 : Nat) (z10 : Nat) (z11 : Nat) (z12 : Nat) (z13 : Nat) (z14 : Nat) (z15 : Nat) (z16 : Nat) (z17 : Nat) (z18 : Nat) (z19 : Nat) (z22 : Nat) (z23 : Nat) (z24 : Nat) (z25 : Nat) (z26 : Nat) (z27 : Nat) (z28 : Nat) (z29 : Nat) (z30 : Nat) (z31 : Nat) (z32 : Nat) (z33 : Nat) (z36 : Nat) (z37 : Nat) (z38 : Nat) (z39 : Nat) (z40 : Nat) (z41 : Nat) (z42 : Nat) (z43 : Nat) (z44 : Nat) (z45 : Nat) (z46 : Nat) (z47 : Nat) (z48 : Nat) (z55 : Nat) (z56 : Nat) (z59 : Nat) (z60 : Nat) (z61 : Nat) (fa : Nat → Int32) (t : Int32) (ha0 : fa 0 = 0) (ha1 : fa 1 = 0) (ha2 : fa 2 = 10) (ha3 : fa 3 = 10) (ha4 : fa 4 = 3) (ht : ¬ t = -1) : kM γ l yX12_match cX12_match 2 ((some .int)) ({ frames := 1, cells := 0, slots := 0, locals := 21 } : Room) [.ref z, .int t] [(z, .inr (11, [.int 0, .int 0, .ref z2, .int 0, .int 0, .int 0, .int 0, .long 0, .int 0, .int 0, .ref z10, .ref z11, .ref z12, .ref z13, .ref z14, .ref z15, .ref z16, .ref z17, .ref z18, .ref z19, .int 0, .int 0, .ref z22, .ref z23, .ref z24, .ref z25, .ref z26, .ref z27, .ref z28, .ref z29, .ref z30, .ref z31, .ref z32, .ref z33, .int 0, .long 0, .ref z36, .ref z37, .ref z38, .ref z39, .ref z40, .ref z41, .ref z42, .ref z43, .ref z44, .ref z45, .ref z46, .ref z47, .ref z48, .int 0, .int 10, .int 0, .int 0, .int 0, .int 0, .ref z55, .ref z56, .int 0, .int 0, .ref z59, .ref z60, .ref z61, .int 0, .long 0])), (z10, .inl (γ.2.1 0, 10, .inl fa))] (fun r w1 => r = some (.int (-2)) ∧ w1 = []) := by
  refine k_ofW (by decide) (Nat.le_of_ble_eq_true rfl) ?_
  intro p e s m below meth c A ls hC hr hlocks hname hw hl
  have hx := hC.1
  have hb := hC.2.1
  have hl : lv_has ls 2 [(0, .ref z), (1, .int t)] := hl
  refine lv_aload_n hx hb dX12_match_0 rfl (lv_at hl 0 rfl) ?_
  refine lv_iconst (v := 0) hx hb dX12_match_1 (by decide) ?_
  refine fs_RX12_143 hC hw 0 rfl rfl rfl (Nat.le_of_ble_eq_true rfl) dX12_match_2 (fun H locs hw => ?_)
  have hw : kW γ A [(z, .inr (11, [.int 0, .int 0, .ref z2, .int 0, .int 0, .int 0, .int 0, .long 0, .int 0, .int 0, .ref z10, .ref z11, .ref z12, .ref z13, .ref z14, .ref z15, .ref z16, .ref z17, .ref z18, .ref z19, .int 0, .int 0, .ref z22, .ref z23, .ref z24, .ref z25, .ref z26, .ref z27, .ref z28, .ref z29, .ref z30, .ref z31, .ref z32, .ref z33, .int 0, .long 0, .ref z36, .ref z37, .ref z38, .ref z39, .ref z40, .ref z41, .ref z42, .ref z43, .ref z44, .ref z45, .ref z46, .ref z47, .ref z48, .int 0, .int 10, .int 0, .int 0, .int 0, .int 0, .ref z55, .ref z56, .int 0, .int 0, .ref z59, .ref z60, .ref z61, .int 0, .long 0])), (z10, .inl (γ.2.1 0, 10, .inl fa))] s H locs := hw
  refine lv_iload_n hx hb dX12_match_5 rfl (lv_at hl 1 rfl) ?_
  refine lv_iconst (v := (-1)) hx hb dX12_match_6 (by decide) ?_
  refine lv_icmp_eq (tgt := 21) hx hb dX12_match_7 (by decide) (fun h => absurd h ht) (fun _ => ?_)
  refine lv_aload_n hx hb dX12_match_10 rfl (lv_at hl 0 rfl) ?_
  refine lv_iload_n hx hb dX12_match_11 rfl (lv_at hl 1 rfl) ?_
  refine k_V (wr := []) 1 gw_1557 gw_1559 gp_80 gw_15 gw_1560 hd_X12_isTenant hC hw (c_X12_isTenant γ l z z2 z10 z11 z12 z13 z14 z15 z16 z17 z18 z19 z22 z23 z24 z25 z26 z27 z28 z29 z30 z31 z32 z33 z36 z37 z38 z39 z40 z41 z42 z43 z44 z45 z46 z47 z48 z55 z56 z59 z60 z61 fa t ha0 ha1 ha2 ha3 ha4) ⟨by decide, by decide⟩ ⟨by decide, by decide⟩ hl.1 rfl 0 rfl rfl rfl (Nat.le_of_ble_eq_true rfl) [0, 1] [] rfl rfl rfl rfl (by decide) dX12_match_12 (fun r w1 H locs hq hw => ?_)
  obtain ⟨rfl, rfl⟩ := hq
  have hw : kW γ A [(z, .inr (11, [.int 0, .int 0, .ref z2, .int 0, .int 0, .int 0, .int 0, .long 0, .int 0, .int 0, .ref z10, .ref z11, .ref z12, .ref z13, .ref z14, .ref z15, .ref z16, .ref z17, .ref z18, .ref z19, .int 0, .int 0, .ref z22, .ref z23, .ref z24, .ref z25, .ref z26, .ref z27, .ref z28, .ref z29, .ref z30, .ref z31, .ref z32, .ref z33, .int 0, .long 0, .ref z36, .ref z37, .ref z38, .ref z39, .ref z40, .ref z41, .ref z42, .ref z43, .ref z44, .ref z45, .ref z46, .ref z47, .ref z48, .int 0, .int 10, .int 0, .int 0, .int 0, .int 0, .ref z55, .ref z56, .int 0, .int 0, .ref z59, .ref z60, .ref z61, .int 0, .long 0])), (z10, .inl (γ.2.1 0, 10, .inl fa))] s H locs := hw
  refine W.eq (g2 := F0 m 15 ls [.int 0]) rfl ?_
  refine lv_if_ne (tgt := 21) hx hb dX12_match_15 (by decide) (fun h => absurd rfl h) (fun _ => ?_)
  refine lv_bipush (v := (-2)) hx hb dX12_match_18 (by decide) ?_
  exact k_iret hC hr hlocks hw [] rfl rfl ⟨rfl, rfl⟩ (by decide) (by decide) dX12_match_20

set_option maxHeartbeats 4000000 in
set_option maxRecDepth 100000 in
theorem c_X12_inBarn (γ : kΓ) (l : Launch) (z : Nat) (z2 : Nat) (z10 : Nat) (z11 : Nat) (z12 : Nat) (z13 : Nat) (z14 : Nat) (z15 : Nat) (z16 : Nat) (z17 : Nat) (z18 : Nat) (z19 : Nat) (z22 : Nat) (z23 : Nat) (z24 : Nat) (z25 : Nat) (z26 : Nat) (z27 : Nat) (z28 : Nat) (z29 : Nat) (z30 : Nat) (z31 : Nat) (z32 : Nat) (z33 : Nat) (z36 : Nat) (z37 : Nat) (z38 : Nat) (z39 : Nat) (z40 : Nat) (z41 : Nat) (z42 : Nat) (z43 : Nat) (z44 : Nat) (z45 : Nat) (z46 : Nat) (z47 : Nat) (z48 : Nat) (z55 : Nat) (z56 : Nat) (z59 : Nat) (z60 : Nat) (z61 : Nat) : kM γ l yX12_inBarn cX12_inBarn 3 ((some .int)) ({ frames := 0, cells := 0, slots := 0, locals := 0 } : Room) [.ref z] [(z, .inr (11, [.int 0, .int 0, .ref z2, .int 0, .int 0, .int 0, .int 0, .long 0, .int 0, .int 0, .ref z10, .ref z11, .ref z12, .ref z13, .ref z14, .ref z15, .ref z16, .ref z17, .ref z18, .ref z19, .int 0, .int 0, .ref z22, .ref z23, .ref z24, .ref z25, .ref z26, .ref z27, .ref z28, .ref z29, .ref z30, .ref z31, .ref z32, .ref z33, .int 0, .long 0, .ref z36, .ref z37, .ref z38, .ref z39, .ref z40, .ref z41, .ref z42, .ref z43, .ref z44, .ref z45, .ref z46, .ref z47, .ref z48, .int 0, .int 10, .int 0, .int 0, .int 0, .int 0, .ref z55, .ref z56, .int 0, .int 0, .ref z59, .ref z60, .ref z61, .int 0, .long 0])), (z43, .inl (γ.2.1 0, 133, .inl (fun _ => 0)))] (fun r w1 => r = some (.int 0) ∧ w1 = [(z, .inr (11, [.int 0, .int 0, .ref z2, .int 0, .int 0, .int 0, .int 0, .long 0, .int 0, .int 0, .ref z10, .ref z11, .ref z12, .ref z13, .ref z14, .ref z15, .ref z16, .ref z17, .ref z18, .ref z19, .int 0, .int 0, .ref z22, .ref z23, .ref z24, .ref z25, .ref z26, .ref z27, .ref z28, .ref z29, .ref z30, .ref z31, .ref z32, .ref z33, .int 0, .long 0, .ref z36, .ref z37, .ref z38, .ref z39, .ref z40, .ref z41, .ref z42, .ref z43, .ref z44, .ref z45, .ref z46, .ref z47, .ref z48, .int 0, .int 10, .int 0, .int 0, .int 0, .int 0, .ref z55, .ref z56, .int 0, .int 0, .ref z59, .ref z60, .ref z61, .int 0, .long 0])), (z43, .inl (γ.2.1 0, 133, .inl (fun _ => 0)))]) := by
  refine k_ofW (by decide) (Nat.le_of_ble_eq_true rfl) ?_
  intro p e s m below meth c A ls hC hr hlocks hname hw hl
  have hx := hC.1
  have hb := hC.2.1
  have hl : lv_has ls 3 [(0, .ref z)] := hl
  refine lv_iconst (v := 0) hx hb dX12_inBarn_0 (by decide) ?_
  refine lv_istore_n (lv' := [(1, .int 0), (0, .ref z)]) hx hb dX12_inBarn_1 rfl hl (by decide) rfl (fun ls hl => ?_)
  refine lv_iconst (v := 0) hx hb dX12_inBarn_2 (by decide) ?_
  refine lv_istore_n (lv' := [(2, .int 0), (1, .int 0), (0, .ref z)]) hx hb dX12_inBarn_3 rfl hl (by decide) rfl (fun ls hl => ?_)
  refine lv_iload_n hx hb dX12_inBarn_4 rfl (lv_at hl 0 rfl) ?_
  refine lv_bipush (v := 8) hx hb dX12_inBarn_5 (by decide) ?_
  refine lv_icmp_ge (tgt := 28) hx hb dX12_inBarn_7 (by decide) (fun h => absurd h (by decide)) (fun _ => ?_)
  refine lv_iload_n hx hb dX12_inBarn_10 rfl (lv_at hl 1 rfl) ?_
  refine lv_aload_n hx hb dX12_inBarn_11 rfl (lv_at hl 2 rfl) ?_
  refine fg_RX12_102 hC hw 0 rfl rfl dX12_inBarn_12 ?_
  refine lv_bipush (v := 125) hx hb dX12_inBarn_15 (by decide) ?_
  refine lv_iload_n hx hb dX12_inBarn_17 rfl (lv_at hl 0 rfl) ?_
  refine lv_iadd hx hb dX12_inBarn_18 ?_
  refine lv_topi (fun x_1253 ex_1253 => ?_)
  obtain rfl : x_1253 = 125 := ex_1253.trans (by decide)
  refine k_iald hC hw 1 rfl (k_in0 (by decide)) dX12_inBarn_19 ?_
  refine lv_topi (fun x_1254 ex_1254 => ?_)
  obtain rfl : x_1254 = 0 := ex_1254
  refine lv_iadd hx hb dX12_inBarn_20 ?_
  refine lv_topi (fun x_1255 ex_1255 => ?_)
  obtain rfl : x_1255 = 0 := ex_1255.trans (by decide)
  refine lv_istore_n (lv' := [(1, .int 0), (2, .int 0), (0, .ref z)]) hx hb dX12_inBarn_21 rfl hl (by decide) rfl (fun ls hl => ?_)
  refine lv_iinc (v := 1) (lv' := [(2, .int 1), (1, .int 0), (0, .ref z)]) hx hb dX12_inBarn_22 hl (k := 1) rfl (by decide) (by decide) rfl (fun ls hl => ?_)
  refine lv_goto (tgt := 4) hx hb dX12_inBarn_25 (by decide) ?_
  refine lv_iload_n hx hb dX12_inBarn_4 rfl (lv_at hl 0 rfl) ?_
  refine lv_bipush (v := 8) hx hb dX12_inBarn_5 (by decide) ?_
  refine lv_icmp_ge (tgt := 28) hx hb dX12_inBarn_7 (by decide) (fun h => absurd h (by decide)) (fun _ => ?_)
  refine lv_iload_n hx hb dX12_inBarn_10 rfl (lv_at hl 1 rfl) ?_
  refine lv_aload_n hx hb dX12_inBarn_11 rfl (lv_at hl 2 rfl) ?_
  refine fg_RX12_102 hC hw 0 rfl rfl dX12_inBarn_12 ?_
  refine lv_bipush (v := 125) hx hb dX12_inBarn_15 (by decide) ?_
  refine lv_iload_n hx hb dX12_inBarn_17 rfl (lv_at hl 0 rfl) ?_
  refine lv_iadd hx hb dX12_inBarn_18 ?_
  refine lv_topi (fun x_1256 ex_1256 => ?_)
  obtain rfl : x_1256 = 126 := ex_1256.trans (by decide)
  refine k_iald hC hw 1 rfl (k_in0 (by decide)) dX12_inBarn_19 ?_
  refine lv_topi (fun x_1257 ex_1257 => ?_)
  obtain rfl : x_1257 = 0 := ex_1257
  refine lv_iadd hx hb dX12_inBarn_20 ?_
  refine lv_topi (fun x_1258 ex_1258 => ?_)
  obtain rfl : x_1258 = 0 := ex_1258.trans (by decide)
  refine lv_istore_n (lv' := [(1, .int 0), (2, .int 1), (0, .ref z)]) hx hb dX12_inBarn_21 rfl hl (by decide) rfl (fun ls hl => ?_)
  refine lv_iinc (v := 2) (lv' := [(2, .int 2), (1, .int 0), (0, .ref z)]) hx hb dX12_inBarn_22 hl (k := 1) rfl (by decide) (by decide) rfl (fun ls hl => ?_)
  refine lv_goto (tgt := 4) hx hb dX12_inBarn_25 (by decide) ?_
  refine lv_iload_n hx hb dX12_inBarn_4 rfl (lv_at hl 0 rfl) ?_
  refine lv_bipush (v := 8) hx hb dX12_inBarn_5 (by decide) ?_
  refine lv_icmp_ge (tgt := 28) hx hb dX12_inBarn_7 (by decide) (fun h => absurd h (by decide)) (fun _ => ?_)
  refine lv_iload_n hx hb dX12_inBarn_10 rfl (lv_at hl 1 rfl) ?_
  refine lv_aload_n hx hb dX12_inBarn_11 rfl (lv_at hl 2 rfl) ?_
  refine fg_RX12_102 hC hw 0 rfl rfl dX12_inBarn_12 ?_
  refine lv_bipush (v := 125) hx hb dX12_inBarn_15 (by decide) ?_
  refine lv_iload_n hx hb dX12_inBarn_17 rfl (lv_at hl 0 rfl) ?_
  refine lv_iadd hx hb dX12_inBarn_18 ?_
  refine lv_topi (fun x_1259 ex_1259 => ?_)
  obtain rfl : x_1259 = 127 := ex_1259.trans (by decide)
  refine k_iald hC hw 1 rfl (k_in0 (by decide)) dX12_inBarn_19 ?_
  refine lv_topi (fun x_1260 ex_1260 => ?_)
  obtain rfl : x_1260 = 0 := ex_1260
  refine lv_iadd hx hb dX12_inBarn_20 ?_
  refine lv_topi (fun x_1261 ex_1261 => ?_)
  obtain rfl : x_1261 = 0 := ex_1261.trans (by decide)
  refine lv_istore_n (lv' := [(1, .int 0), (2, .int 2), (0, .ref z)]) hx hb dX12_inBarn_21 rfl hl (by decide) rfl (fun ls hl => ?_)
  refine lv_iinc (v := 3) (lv' := [(2, .int 3), (1, .int 0), (0, .ref z)]) hx hb dX12_inBarn_22 hl (k := 1) rfl (by decide) (by decide) rfl (fun ls hl => ?_)
  refine lv_goto (tgt := 4) hx hb dX12_inBarn_25 (by decide) ?_
  refine lv_iload_n hx hb dX12_inBarn_4 rfl (lv_at hl 0 rfl) ?_
  refine lv_bipush (v := 8) hx hb dX12_inBarn_5 (by decide) ?_
  refine lv_icmp_ge (tgt := 28) hx hb dX12_inBarn_7 (by decide) (fun h => absurd h (by decide)) (fun _ => ?_)
  refine lv_iload_n hx hb dX12_inBarn_10 rfl (lv_at hl 1 rfl) ?_
  refine lv_aload_n hx hb dX12_inBarn_11 rfl (lv_at hl 2 rfl) ?_
  refine fg_RX12_102 hC hw 0 rfl rfl dX12_inBarn_12 ?_
  refine lv_bipush (v := 125) hx hb dX12_inBarn_15 (by decide) ?_
  refine lv_iload_n hx hb dX12_inBarn_17 rfl (lv_at hl 0 rfl) ?_
  refine lv_iadd hx hb dX12_inBarn_18 ?_
  refine lv_topi (fun x_1262 ex_1262 => ?_)
  obtain rfl : x_1262 = 128 := ex_1262.trans (by decide)
  refine k_iald hC hw 1 rfl (k_in0 (by decide)) dX12_inBarn_19 ?_
  refine lv_topi (fun x_1263 ex_1263 => ?_)
  obtain rfl : x_1263 = 0 := ex_1263
  refine lv_iadd hx hb dX12_inBarn_20 ?_
  refine lv_topi (fun x_1264 ex_1264 => ?_)
  obtain rfl : x_1264 = 0 := ex_1264.trans (by decide)
  refine lv_istore_n (lv' := [(1, .int 0), (2, .int 3), (0, .ref z)]) hx hb dX12_inBarn_21 rfl hl (by decide) rfl (fun ls hl => ?_)
  refine lv_iinc (v := 4) (lv' := [(2, .int 4), (1, .int 0), (0, .ref z)]) hx hb dX12_inBarn_22 hl (k := 1) rfl (by decide) (by decide) rfl (fun ls hl => ?_)
  refine lv_goto (tgt := 4) hx hb dX12_inBarn_25 (by decide) ?_
  refine lv_iload_n hx hb dX12_inBarn_4 rfl (lv_at hl 0 rfl) ?_
  refine lv_bipush (v := 8) hx hb dX12_inBarn_5 (by decide) ?_
  refine lv_icmp_ge (tgt := 28) hx hb dX12_inBarn_7 (by decide) (fun h => absurd h (by decide)) (fun _ => ?_)
  refine lv_iload_n hx hb dX12_inBarn_10 rfl (lv_at hl 1 rfl) ?_
  refine lv_aload_n hx hb dX12_inBarn_11 rfl (lv_at hl 2 rfl) ?_
  refine fg_RX12_102 hC hw 0 rfl rfl dX12_inBarn_12 ?_
  refine lv_bipush (v := 125) hx hb dX12_inBarn_15 (by decide) ?_
  refine lv_iload_n hx hb dX12_inBarn_17 rfl (lv_at hl 0 rfl) ?_
  refine lv_iadd hx hb dX12_inBarn_18 ?_
  refine lv_topi (fun x_1265 ex_1265 => ?_)
  obtain rfl : x_1265 = 129 := ex_1265.trans (by decide)
  refine k_iald hC hw 1 rfl (k_in0 (by decide)) dX12_inBarn_19 ?_
  refine lv_topi (fun x_1266 ex_1266 => ?_)
  obtain rfl : x_1266 = 0 := ex_1266
  refine lv_iadd hx hb dX12_inBarn_20 ?_
  refine lv_topi (fun x_1267 ex_1267 => ?_)
  obtain rfl : x_1267 = 0 := ex_1267.trans (by decide)
  refine lv_istore_n (lv' := [(1, .int 0), (2, .int 4), (0, .ref z)]) hx hb dX12_inBarn_21 rfl hl (by decide) rfl (fun ls hl => ?_)
  refine lv_iinc (v := 5) (lv' := [(2, .int 5), (1, .int 0), (0, .ref z)]) hx hb dX12_inBarn_22 hl (k := 1) rfl (by decide) (by decide) rfl (fun ls hl => ?_)
  refine lv_goto (tgt := 4) hx hb dX12_inBarn_25 (by decide) ?_
  refine lv_iload_n hx hb dX12_inBarn_4 rfl (lv_at hl 0 rfl) ?_
  refine lv_bipush (v := 8) hx hb dX12_inBarn_5 (by decide) ?_
  refine lv_icmp_ge (tgt := 28) hx hb dX12_inBarn_7 (by decide) (fun h => absurd h (by decide)) (fun _ => ?_)
  refine lv_iload_n hx hb dX12_inBarn_10 rfl (lv_at hl 1 rfl) ?_
  refine lv_aload_n hx hb dX12_inBarn_11 rfl (lv_at hl 2 rfl) ?_
  refine fg_RX12_102 hC hw 0 rfl rfl dX12_inBarn_12 ?_
  refine lv_bipush (v := 125) hx hb dX12_inBarn_15 (by decide) ?_
  refine lv_iload_n hx hb dX12_inBarn_17 rfl (lv_at hl 0 rfl) ?_
  refine lv_iadd hx hb dX12_inBarn_18 ?_
  refine lv_topi (fun x_1268 ex_1268 => ?_)
  obtain rfl : x_1268 = 130 := ex_1268.trans (by decide)
  refine k_iald hC hw 1 rfl (k_in0 (by decide)) dX12_inBarn_19 ?_
  refine lv_topi (fun x_1269 ex_1269 => ?_)
  obtain rfl : x_1269 = 0 := ex_1269
  refine lv_iadd hx hb dX12_inBarn_20 ?_
  refine lv_topi (fun x_1270 ex_1270 => ?_)
  obtain rfl : x_1270 = 0 := ex_1270.trans (by decide)
  refine lv_istore_n (lv' := [(1, .int 0), (2, .int 5), (0, .ref z)]) hx hb dX12_inBarn_21 rfl hl (by decide) rfl (fun ls hl => ?_)
  refine lv_iinc (v := 6) (lv' := [(2, .int 6), (1, .int 0), (0, .ref z)]) hx hb dX12_inBarn_22 hl (k := 1) rfl (by decide) (by decide) rfl (fun ls hl => ?_)
  refine lv_goto (tgt := 4) hx hb dX12_inBarn_25 (by decide) ?_
  refine lv_iload_n hx hb dX12_inBarn_4 rfl (lv_at hl 0 rfl) ?_
  refine lv_bipush (v := 8) hx hb dX12_inBarn_5 (by decide) ?_
  refine lv_icmp_ge (tgt := 28) hx hb dX12_inBarn_7 (by decide) (fun h => absurd h (by decide)) (fun _ => ?_)
  refine lv_iload_n hx hb dX12_inBarn_10 rfl (lv_at hl 1 rfl) ?_
  refine lv_aload_n hx hb dX12_inBarn_11 rfl (lv_at hl 2 rfl) ?_
  refine fg_RX12_102 hC hw 0 rfl rfl dX12_inBarn_12 ?_
  refine lv_bipush (v := 125) hx hb dX12_inBarn_15 (by decide) ?_
  refine lv_iload_n hx hb dX12_inBarn_17 rfl (lv_at hl 0 rfl) ?_
  refine lv_iadd hx hb dX12_inBarn_18 ?_
  refine lv_topi (fun x_1271 ex_1271 => ?_)
  obtain rfl : x_1271 = 131 := ex_1271.trans (by decide)
  refine k_iald hC hw 1 rfl (k_in0 (by decide)) dX12_inBarn_19 ?_
  refine lv_topi (fun x_1272 ex_1272 => ?_)
  obtain rfl : x_1272 = 0 := ex_1272
  refine lv_iadd hx hb dX12_inBarn_20 ?_
  refine lv_topi (fun x_1273 ex_1273 => ?_)
  obtain rfl : x_1273 = 0 := ex_1273.trans (by decide)
  refine lv_istore_n (lv' := [(1, .int 0), (2, .int 6), (0, .ref z)]) hx hb dX12_inBarn_21 rfl hl (by decide) rfl (fun ls hl => ?_)
  refine lv_iinc (v := 7) (lv' := [(2, .int 7), (1, .int 0), (0, .ref z)]) hx hb dX12_inBarn_22 hl (k := 1) rfl (by decide) (by decide) rfl (fun ls hl => ?_)
  refine lv_goto (tgt := 4) hx hb dX12_inBarn_25 (by decide) ?_
  refine lv_iload_n hx hb dX12_inBarn_4 rfl (lv_at hl 0 rfl) ?_
  refine lv_bipush (v := 8) hx hb dX12_inBarn_5 (by decide) ?_
  refine lv_icmp_ge (tgt := 28) hx hb dX12_inBarn_7 (by decide) (fun h => absurd h (by decide)) (fun _ => ?_)
  refine lv_iload_n hx hb dX12_inBarn_10 rfl (lv_at hl 1 rfl) ?_
  refine lv_aload_n hx hb dX12_inBarn_11 rfl (lv_at hl 2 rfl) ?_
  refine fg_RX12_102 hC hw 0 rfl rfl dX12_inBarn_12 ?_
  refine lv_bipush (v := 125) hx hb dX12_inBarn_15 (by decide) ?_
  refine lv_iload_n hx hb dX12_inBarn_17 rfl (lv_at hl 0 rfl) ?_
  refine lv_iadd hx hb dX12_inBarn_18 ?_
  refine lv_topi (fun x_1274 ex_1274 => ?_)
  obtain rfl : x_1274 = 132 := ex_1274.trans (by decide)
  refine k_iald hC hw 1 rfl (k_in0 (by decide)) dX12_inBarn_19 ?_
  refine lv_topi (fun x_1275 ex_1275 => ?_)
  obtain rfl : x_1275 = 0 := ex_1275
  refine lv_iadd hx hb dX12_inBarn_20 ?_
  refine lv_topi (fun x_1276 ex_1276 => ?_)
  obtain rfl : x_1276 = 0 := ex_1276.trans (by decide)
  refine lv_istore_n (lv' := [(1, .int 0), (2, .int 7), (0, .ref z)]) hx hb dX12_inBarn_21 rfl hl (by decide) rfl (fun ls hl => ?_)
  refine lv_iinc (v := 8) (lv' := [(2, .int 8), (1, .int 0), (0, .ref z)]) hx hb dX12_inBarn_22 hl (k := 1) rfl (by decide) (by decide) rfl (fun ls hl => ?_)
  refine lv_goto (tgt := 4) hx hb dX12_inBarn_25 (by decide) ?_
  refine lv_iload_n hx hb dX12_inBarn_4 rfl (lv_at hl 0 rfl) ?_
  refine lv_bipush (v := 8) hx hb dX12_inBarn_5 (by decide) ?_
  refine lv_icmp_ge (tgt := 28) hx hb dX12_inBarn_7 (by decide) (fun _ => ?_) (fun h => absurd (by decide) h)
  refine lv_iload_n hx hb dX12_inBarn_28 rfl (lv_at hl 1 rfl) ?_
  exact k_iret hC hr hlocks hw [0, 1] rfl rfl ⟨rfl, rfl⟩ (by decide) (by decide) dX12_inBarn_29

set_option maxHeartbeats 4000000 in
set_option maxRecDepth 100000 in
theorem c_X12_worthInBarn (γ : kΓ) (l : Launch) (z : Nat) (z2 : Nat) (z10 : Nat) (z11 : Nat) (z12 : Nat) (z13 : Nat) (z14 : Nat) (z15 : Nat) (z16 : Nat) (z17 : Nat) (z18 : Nat) (z19 : Nat) (z22 : Nat) (z23 : Nat) (z24 : Nat) (z25 : Nat) (z26 : Nat) (z27 : Nat) (z28 : Nat) (z29 : Nat) (z30 : Nat) (z31 : Nat) (z32 : Nat) (z33 : Nat) (z36 : Nat) (z37 : Nat) (z38 : Nat) (z39 : Nat) (z40 : Nat) (z41 : Nat) (z42 : Nat) (z43 : Nat) (z44 : Nat) (z45 : Nat) (z46 : Nat) (z47 : Nat) (z48 : Nat) (z55 : Nat) (z56 : Nat) (z59 : Nat) (z60 : Nat) (z61 : Nat) (fa : Nat → Int32) (ha0 : fa 0 = 0) (ha1 : fa 1 = 0) (ha2 : fa 2 = 10) (ha3 : fa 3 = 10) (ha4 : fa 4 = 3) : kM γ l yX12_worthInBarn cX12_worthInBarn 3 ((some .int)) ({ frames := 0, cells := 0, slots := 0, locals := 0 } : Room) [.ref z] [(z, .inr (11, [.int 0, .int 0, .ref z2, .int 0, .int 0, .int 0, .int 0, .long 0, .int 0, .int 0, .ref z10, .ref z11, .ref z12, .ref z13, .ref z14, .ref z15, .ref z16, .ref z17, .ref z18, .ref z19, .int 0, .int 0, .ref z22, .ref z23, .ref z24, .ref z25, .ref z26, .ref z27, .ref z28, .ref z29, .ref z30, .ref z31, .ref z32, .ref z33, .int 0, .long 0, .ref z36, .ref z37, .ref z38, .ref z39, .ref z40, .ref z41, .ref z42, .ref z43, .ref z44, .ref z45, .ref z46, .ref z47, .ref z48, .int 0, .int 10, .int 0, .int 0, .int 0, .int 0, .ref z55, .ref z56, .int 0, .int 0, .ref z59, .ref z60, .ref z61, .int 0, .long 0])), (z10, .inl (γ.2.1 0, 10, .inl fa))] (fun r w1 => r = some (.int 0) ∧ w1 = [(z, .inr (11, [.int 0, .int 0, .ref z2, .int 0, .int 0, .int 0, .int 0, .long 0, .int 0, .int 0, .ref z10, .ref z11, .ref z12, .ref z13, .ref z14, .ref z15, .ref z16, .ref z17, .ref z18, .ref z19, .int 0, .int 0, .ref z22, .ref z23, .ref z24, .ref z25, .ref z26, .ref z27, .ref z28, .ref z29, .ref z30, .ref z31, .ref z32, .ref z33, .int 0, .long 0, .ref z36, .ref z37, .ref z38, .ref z39, .ref z40, .ref z41, .ref z42, .ref z43, .ref z44, .ref z45, .ref z46, .ref z47, .ref z48, .int 0, .int 10, .int 0, .int 0, .int 0, .int 0, .ref z55, .ref z56, .int 0, .int 0, .ref z59, .ref z60, .ref z61, .int 0, .long 0])), (z10, .inl (γ.2.1 0, 10, .inl fa))]) := by
  refine k_ofW (by decide) (Nat.le_of_ble_eq_true rfl) ?_
  intro p e s m below meth c A ls hC hr hlocks hname hw hl
  have hx := hC.1
  have hb := hC.2.1
  have hl : lv_has ls 3 [(0, .ref z)] := hl
  refine lv_iconst (v := 0) hx hb dX12_worthInBarn_0 (by decide) ?_
  refine lv_istore_n (lv' := [(1, .int 0), (0, .ref z)]) hx hb dX12_worthInBarn_1 rfl hl (by decide) rfl (fun ls hl => ?_)
  refine lv_iconst (v := 0) hx hb dX12_worthInBarn_2 (by decide) ?_
  refine lv_istore_n (lv' := [(2, .int 0), (1, .int 0), (0, .ref z)]) hx hb dX12_worthInBarn_3 rfl hl (by decide) rfl (fun ls hl => ?_)
  refine lv_iload_n hx hb dX12_worthInBarn_4 rfl (lv_at hl 0 rfl) ?_
  refine lv_aload_n hx hb dX12_worthInBarn_5 rfl (lv_at hl 2 rfl) ?_
  refine fg_RX12_13 hC hw 0 rfl rfl dX12_worthInBarn_6 ?_
  refine lv_iconst (v := 0) hx hb dX12_worthInBarn_9 (by decide) ?_
  refine k_iald hC hw 1 rfl (k_in0 (by decide)) dX12_worthInBarn_10 ?_
  refine lv_topi (fun x_1277 ex_1277 => ?_)
  obtain rfl : x_1277 = 0 := (show x_1277 = fa 0 from ex_1277).trans ha0
  refine lv_icmp_ge (tgt := 39) hx hb dX12_worthInBarn_11 (by decide) (fun _ => ?_) (fun h => absurd (by decide) h)
  refine lv_iload_n hx hb dX12_worthInBarn_39 rfl (lv_at hl 1 rfl) ?_
  exact k_iret hC hr hlocks hw [0, 1] rfl rfl ⟨rfl, rfl⟩ (by decide) (by decide) dX12_worthInBarn_40

set_option maxHeartbeats 4000000 in
set_option maxRecDepth 100000 in
theorem c_X12_count_0 (γ : kΓ) (l : Launch) (z : Nat) (z2 : Nat) (z10 : Nat) (z11 : Nat) (z12 : Nat) (z13 : Nat) (z14 : Nat) (z15 : Nat) (z16 : Nat) (z17 : Nat) (z18 : Nat) (z19 : Nat) (z22 : Nat) (z23 : Nat) (z24 : Nat) (z25 : Nat) (z26 : Nat) (z27 : Nat) (z28 : Nat) (z29 : Nat) (z30 : Nat) (z31 : Nat) (z32 : Nat) (z33 : Nat) (z36 : Nat) (z37 : Nat) (z38 : Nat) (z39 : Nat) (z40 : Nat) (z41 : Nat) (z42 : Nat) (z43 : Nat) (z44 : Nat) (z45 : Nat) (z46 : Nat) (z47 : Nat) (z48 : Nat) (z55 : Nat) (z56 : Nat) (z59 : Nat) (z60 : Nat) (z61 : Nat) (fa : Nat → Int32) (ha0 : fa 0 = 0) (ha1 : fa 1 = 0) (ha2 : fa 2 = 10) (ha3 : fa 3 = 10) (ha4 : fa 4 = 3) : kM γ l yX12_count cX12_count 2 ((some .int)) ({ frames := 1, cells := 0, slots := 0, locals := 22 } : Room) [.ref z, .int 0] [(z, .inr (11, [.int 0, .int 0, .ref z2, .int 0, .int 0, .int 0, .int 0, .long 0, .int 0, .int 0, .ref z10, .ref z11, .ref z12, .ref z13, .ref z14, .ref z15, .ref z16, .ref z17, .ref z18, .ref z19, .int 0, .int 0, .ref z22, .ref z23, .ref z24, .ref z25, .ref z26, .ref z27, .ref z28, .ref z29, .ref z30, .ref z31, .ref z32, .ref z33, .int 0, .long 0, .ref z36, .ref z37, .ref z38, .ref z39, .ref z40, .ref z41, .ref z42, .ref z43, .ref z44, .ref z45, .ref z46, .ref z47, .ref z48, .int 0, .int 10, .int 0, .int 0, .int 0, .int 0, .ref z55, .ref z56, .int 0, .int 0, .ref z59, .ref z60, .ref z61, .int 0, .long 0])), (z10, .inl (γ.2.1 0, 10, .inl fa))] (fun r w1 => r = some (.int 0) ∧ w1 = []) := by
  refine k_ofW (by decide) (Nat.le_of_ble_eq_true rfl) ?_
  intro p e s m below meth c A ls hC hr hlocks hname hw hl
  have hx := hC.1
  have hb := hC.2.1
  have hl : lv_has ls 2 [(0, .ref z), (1, .int 0)] := hl
  refine lv_aload_n hx hb dX12_count_0 rfl (lv_at hl 0 rfl) ?_
  refine lv_iconst (v := 0) hx hb dX12_count_1 (by decide) ?_
  refine fs_RX12_143 hC hw 0 rfl rfl rfl (Nat.le_of_ble_eq_true rfl) dX12_count_2 (fun H locs hw => ?_)
  have hw : kW γ A [(z, .inr (11, [.int 0, .int 0, .ref z2, .int 0, .int 0, .int 0, .int 0, .long 0, .int 0, .int 0, .ref z10, .ref z11, .ref z12, .ref z13, .ref z14, .ref z15, .ref z16, .ref z17, .ref z18, .ref z19, .int 0, .int 0, .ref z22, .ref z23, .ref z24, .ref z25, .ref z26, .ref z27, .ref z28, .ref z29, .ref z30, .ref z31, .ref z32, .ref z33, .int 0, .long 0, .ref z36, .ref z37, .ref z38, .ref z39, .ref z40, .ref z41, .ref z42, .ref z43, .ref z44, .ref z45, .ref z46, .ref z47, .ref z48, .int 0, .int 10, .int 0, .int 0, .int 0, .int 0, .ref z55, .ref z56, .int 0, .int 0, .ref z59, .ref z60, .ref z61, .int 0, .long 0])), (z10, .inl (γ.2.1 0, 10, .inl fa))] s H locs := hw
  refine lv_iload_n hx hb dX12_count_5 rfl (lv_at hl 1 rfl) ?_
  refine lv_iconst (v := 0) hx hb dX12_count_6 (by decide) ?_
  refine lv_bipush (v := 11) hx hb dX12_count_7 (by decide) ?_
  refine k_S (wr := [(z, .inr (11, [.int 0, .int 0, .ref z2, .int 0, .int 0, .int 0, .int 0, .long 0, .int 0, .int 0, .ref z10, .ref z11, .ref z12, .ref z13, .ref z14, .ref z15, .ref z16, .ref z17, .ref z18, .ref z19, .int 0, .int 0, .ref z22, .ref z23, .ref z24, .ref z25, .ref z26, .ref z27, .ref z28, .ref z29, .ref z30, .ref z31, .ref z32, .ref z33, .int 0, .long 0, .ref z36, .ref z37, .ref z38, .ref z39, .ref z40, .ref z41, .ref z42, .ref z43, .ref z44, .ref z45, .ref z46, .ref z47, .ref z48, .int 0, .int 10, .int 0, .int 0, .int 0, .int 0, .ref z55, .ref z56, .int 0, .int 0, .ref z59, .ref z60, .ref z61, .int 0, .long 0])), (z10, .inl (γ.2.1 0, 10, .inl fa))]) 3 gw_1472 gw_1473 gw_15 gw_1474 hd_X12_within hC hw (c_within_t γ l 0 0 11 (by decide) (by decide)) ⟨by decide, by decide⟩ ⟨by decide, by decide⟩ hl.1 rfl rfl (Nat.le_of_ble_eq_true rfl) [] [0, 1] rfl rfl rfl rfl (by decide) dX12_count_9 (fun r w1 H locs hq hw => ?_)
  obtain ⟨rfl, rfl⟩ := hq
  have hw : kW γ A [(z, .inr (11, [.int 0, .int 0, .ref z2, .int 0, .int 0, .int 0, .int 0, .long 0, .int 0, .int 0, .ref z10, .ref z11, .ref z12, .ref z13, .ref z14, .ref z15, .ref z16, .ref z17, .ref z18, .ref z19, .int 0, .int 0, .ref z22, .ref z23, .ref z24, .ref z25, .ref z26, .ref z27, .ref z28, .ref z29, .ref z30, .ref z31, .ref z32, .ref z33, .int 0, .long 0, .ref z36, .ref z37, .ref z38, .ref z39, .ref z40, .ref z41, .ref z42, .ref z43, .ref z44, .ref z45, .ref z46, .ref z47, .ref z48, .int 0, .int 10, .int 0, .int 0, .int 0, .int 0, .ref z55, .ref z56, .int 0, .int 0, .ref z59, .ref z60, .ref z61, .int 0, .long 0])), (z10, .inl (γ.2.1 0, 10, .inl fa))] s H locs := hw
  refine W.eq (g2 := F0 m 12 ls [.int 1]) rfl ?_
  refine lv_if_ne (tgt := 17) hx hb dX12_count_12 (by decide) (fun _ => ?_) (fun h => absurd h (by decide))
  refine lv_iload_n hx hb dX12_count_17 rfl (lv_at hl 1 rfl) ?_
  refine lv_iconst (v := 5) hx hb dX12_count_18 (by decide) ?_
  refine lv_icmp_ge (tgt := 29) hx hb dX12_count_19 (by decide) (fun h => absurd h (by decide)) (fun _ => ?_)
  refine lv_aload_n hx hb dX12_count_22 rfl (lv_at hl 0 rfl) ?_
  refine fg_RX12_13 hC hw 0 rfl rfl dX12_count_23 ?_
  refine lv_iload_n hx hb dX12_count_26 rfl (lv_at hl 1 rfl) ?_
  refine k_iald hC hw 1 rfl (k_in0 (by decide)) dX12_count_27 ?_
  refine lv_topi (fun x_1278 ex_1278 => ?_)
  obtain rfl : x_1278 = 0 := (show x_1278 = fa 0 from ex_1278).trans ha0
  exact k_iret hC hr hlocks hw [] rfl rfl ⟨rfl, rfl⟩ (by decide) (by decide) dX12_count_28

set_option maxHeartbeats 4000000 in
set_option maxRecDepth 100000 in
theorem c_X12_count_1 (γ : kΓ) (l : Launch) (z : Nat) (z2 : Nat) (z10 : Nat) (z11 : Nat) (z12 : Nat) (z13 : Nat) (z14 : Nat) (z15 : Nat) (z16 : Nat) (z17 : Nat) (z18 : Nat) (z19 : Nat) (z22 : Nat) (z23 : Nat) (z24 : Nat) (z25 : Nat) (z26 : Nat) (z27 : Nat) (z28 : Nat) (z29 : Nat) (z30 : Nat) (z31 : Nat) (z32 : Nat) (z33 : Nat) (z36 : Nat) (z37 : Nat) (z38 : Nat) (z39 : Nat) (z40 : Nat) (z41 : Nat) (z42 : Nat) (z43 : Nat) (z44 : Nat) (z45 : Nat) (z46 : Nat) (z47 : Nat) (z48 : Nat) (z55 : Nat) (z56 : Nat) (z59 : Nat) (z60 : Nat) (z61 : Nat) (fa : Nat → Int32) (ha0 : fa 0 = 0) (ha1 : fa 1 = 0) (ha2 : fa 2 = 10) (ha3 : fa 3 = 10) (ha4 : fa 4 = 3) : kM γ l yX12_count cX12_count 2 ((some .int)) ({ frames := 1, cells := 0, slots := 0, locals := 22 } : Room) [.ref z, .int 1] [(z, .inr (11, [.int 0, .int 0, .ref z2, .int 0, .int 0, .int 0, .int 0, .long 0, .int 0, .int 0, .ref z10, .ref z11, .ref z12, .ref z13, .ref z14, .ref z15, .ref z16, .ref z17, .ref z18, .ref z19, .int 0, .int 0, .ref z22, .ref z23, .ref z24, .ref z25, .ref z26, .ref z27, .ref z28, .ref z29, .ref z30, .ref z31, .ref z32, .ref z33, .int 0, .long 0, .ref z36, .ref z37, .ref z38, .ref z39, .ref z40, .ref z41, .ref z42, .ref z43, .ref z44, .ref z45, .ref z46, .ref z47, .ref z48, .int 0, .int 10, .int 0, .int 0, .int 0, .int 0, .ref z55, .ref z56, .int 0, .int 0, .ref z59, .ref z60, .ref z61, .int 0, .long 0])), (z10, .inl (γ.2.1 0, 10, .inl fa))] (fun r w1 => r = some (.int 0) ∧ w1 = []) := by
  refine k_ofW (by decide) (Nat.le_of_ble_eq_true rfl) ?_
  intro p e s m below meth c A ls hC hr hlocks hname hw hl
  have hx := hC.1
  have hb := hC.2.1
  have hl : lv_has ls 2 [(0, .ref z), (1, .int 1)] := hl
  refine lv_aload_n hx hb dX12_count_0 rfl (lv_at hl 0 rfl) ?_
  refine lv_iconst (v := 0) hx hb dX12_count_1 (by decide) ?_
  refine fs_RX12_143 hC hw 0 rfl rfl rfl (Nat.le_of_ble_eq_true rfl) dX12_count_2 (fun H locs hw => ?_)
  have hw : kW γ A [(z, .inr (11, [.int 0, .int 0, .ref z2, .int 0, .int 0, .int 0, .int 0, .long 0, .int 0, .int 0, .ref z10, .ref z11, .ref z12, .ref z13, .ref z14, .ref z15, .ref z16, .ref z17, .ref z18, .ref z19, .int 0, .int 0, .ref z22, .ref z23, .ref z24, .ref z25, .ref z26, .ref z27, .ref z28, .ref z29, .ref z30, .ref z31, .ref z32, .ref z33, .int 0, .long 0, .ref z36, .ref z37, .ref z38, .ref z39, .ref z40, .ref z41, .ref z42, .ref z43, .ref z44, .ref z45, .ref z46, .ref z47, .ref z48, .int 0, .int 10, .int 0, .int 0, .int 0, .int 0, .ref z55, .ref z56, .int 0, .int 0, .ref z59, .ref z60, .ref z61, .int 0, .long 0])), (z10, .inl (γ.2.1 0, 10, .inl fa))] s H locs := hw
  refine lv_iload_n hx hb dX12_count_5 rfl (lv_at hl 1 rfl) ?_
  refine lv_iconst (v := 0) hx hb dX12_count_6 (by decide) ?_
  refine lv_bipush (v := 11) hx hb dX12_count_7 (by decide) ?_
  refine k_S (wr := [(z, .inr (11, [.int 0, .int 0, .ref z2, .int 0, .int 0, .int 0, .int 0, .long 0, .int 0, .int 0, .ref z10, .ref z11, .ref z12, .ref z13, .ref z14, .ref z15, .ref z16, .ref z17, .ref z18, .ref z19, .int 0, .int 0, .ref z22, .ref z23, .ref z24, .ref z25, .ref z26, .ref z27, .ref z28, .ref z29, .ref z30, .ref z31, .ref z32, .ref z33, .int 0, .long 0, .ref z36, .ref z37, .ref z38, .ref z39, .ref z40, .ref z41, .ref z42, .ref z43, .ref z44, .ref z45, .ref z46, .ref z47, .ref z48, .int 0, .int 10, .int 0, .int 0, .int 0, .int 0, .ref z55, .ref z56, .int 0, .int 0, .ref z59, .ref z60, .ref z61, .int 0, .long 0])), (z10, .inl (γ.2.1 0, 10, .inl fa))]) 3 gw_1472 gw_1473 gw_15 gw_1474 hd_X12_within hC hw (c_within_t γ l 1 0 11 (by decide) (by decide)) ⟨by decide, by decide⟩ ⟨by decide, by decide⟩ hl.1 rfl rfl (Nat.le_of_ble_eq_true rfl) [] [0, 1] rfl rfl rfl rfl (by decide) dX12_count_9 (fun r w1 H locs hq hw => ?_)
  obtain ⟨rfl, rfl⟩ := hq
  have hw : kW γ A [(z, .inr (11, [.int 0, .int 0, .ref z2, .int 0, .int 0, .int 0, .int 0, .long 0, .int 0, .int 0, .ref z10, .ref z11, .ref z12, .ref z13, .ref z14, .ref z15, .ref z16, .ref z17, .ref z18, .ref z19, .int 0, .int 0, .ref z22, .ref z23, .ref z24, .ref z25, .ref z26, .ref z27, .ref z28, .ref z29, .ref z30, .ref z31, .ref z32, .ref z33, .int 0, .long 0, .ref z36, .ref z37, .ref z38, .ref z39, .ref z40, .ref z41, .ref z42, .ref z43, .ref z44, .ref z45, .ref z46, .ref z47, .ref z48, .int 0, .int 10, .int 0, .int 0, .int 0, .int 0, .ref z55, .ref z56, .int 0, .int 0, .ref z59, .ref z60, .ref z61, .int 0, .long 0])), (z10, .inl (γ.2.1 0, 10, .inl fa))] s H locs := hw
  refine W.eq (g2 := F0 m 12 ls [.int 1]) rfl ?_
  refine lv_if_ne (tgt := 17) hx hb dX12_count_12 (by decide) (fun _ => ?_) (fun h => absurd h (by decide))
  refine lv_iload_n hx hb dX12_count_17 rfl (lv_at hl 1 rfl) ?_
  refine lv_iconst (v := 5) hx hb dX12_count_18 (by decide) ?_
  refine lv_icmp_ge (tgt := 29) hx hb dX12_count_19 (by decide) (fun h => absurd h (by decide)) (fun _ => ?_)
  refine lv_aload_n hx hb dX12_count_22 rfl (lv_at hl 0 rfl) ?_
  refine fg_RX12_13 hC hw 0 rfl rfl dX12_count_23 ?_
  refine lv_iload_n hx hb dX12_count_26 rfl (lv_at hl 1 rfl) ?_
  refine k_iald hC hw 1 rfl (k_in0 (by decide)) dX12_count_27 ?_
  refine lv_topi (fun x_1279 ex_1279 => ?_)
  obtain rfl : x_1279 = 0 := (show x_1279 = fa 1 from ex_1279).trans ha1
  exact k_iret hC hr hlocks hw [] rfl rfl ⟨rfl, rfl⟩ (by decide) (by decide) dX12_count_28

set_option maxHeartbeats 4000000 in
set_option maxRecDepth 100000 in
theorem c_X12_count_2 (γ : kΓ) (l : Launch) (z : Nat) (z2 : Nat) (z10 : Nat) (z11 : Nat) (z12 : Nat) (z13 : Nat) (z14 : Nat) (z15 : Nat) (z16 : Nat) (z17 : Nat) (z18 : Nat) (z19 : Nat) (z22 : Nat) (z23 : Nat) (z24 : Nat) (z25 : Nat) (z26 : Nat) (z27 : Nat) (z28 : Nat) (z29 : Nat) (z30 : Nat) (z31 : Nat) (z32 : Nat) (z33 : Nat) (z36 : Nat) (z37 : Nat) (z38 : Nat) (z39 : Nat) (z40 : Nat) (z41 : Nat) (z42 : Nat) (z43 : Nat) (z44 : Nat) (z45 : Nat) (z46 : Nat) (z47 : Nat) (z48 : Nat) (z55 : Nat) (z56 : Nat) (z59 : Nat) (z60 : Nat) (z61 : Nat) (fa : Nat → Int32) (ha0 : fa 0 = 0) (ha1 : fa 1 = 0) (ha2 : fa 2 = 10) (ha3 : fa 3 = 10) (ha4 : fa 4 = 3) : kM γ l yX12_count cX12_count 2 ((some .int)) ({ frames := 1, cells := 0, slots := 0, locals := 22 } : Room) [.ref z, .int 2] [(z, .inr (11, [.int 0, .int 0, .ref z2, .int 0, .int 0, .int 0, .int 0, .long 0, .int 0, .int 0, .ref z10, .ref z11, .ref z12, .ref z13, .ref z14, .ref z15, .ref z16, .ref z17, .ref z18, .ref z19, .int 0, .int 0, .ref z22, .ref z23, .ref z24, .ref z25, .ref z26, .ref z27, .ref z28, .ref z29, .ref z30, .ref z31, .ref z32, .ref z33, .int 0, .long 0, .ref z36, .ref z37, .ref z38, .ref z39, .ref z40, .ref z41, .ref z42, .ref z43, .ref z44, .ref z45, .ref z46, .ref z47, .ref z48, .int 0, .int 10, .int 0, .int 0, .int 0, .int 0, .ref z55, .ref z56, .int 0, .int 0, .ref z59, .ref z60, .ref z61, .int 0, .long 0])), (z10, .inl (γ.2.1 0, 10, .inl fa))] (fun r w1 => r = some (.int 10) ∧ w1 = []) := by
  refine k_ofW (by decide) (Nat.le_of_ble_eq_true rfl) ?_
  intro p e s m below meth c A ls hC hr hlocks hname hw hl
  have hx := hC.1
  have hb := hC.2.1
  have hl : lv_has ls 2 [(0, .ref z), (1, .int 2)] := hl
  refine lv_aload_n hx hb dX12_count_0 rfl (lv_at hl 0 rfl) ?_
  refine lv_iconst (v := 0) hx hb dX12_count_1 (by decide) ?_
  refine fs_RX12_143 hC hw 0 rfl rfl rfl (Nat.le_of_ble_eq_true rfl) dX12_count_2 (fun H locs hw => ?_)
  have hw : kW γ A [(z, .inr (11, [.int 0, .int 0, .ref z2, .int 0, .int 0, .int 0, .int 0, .long 0, .int 0, .int 0, .ref z10, .ref z11, .ref z12, .ref z13, .ref z14, .ref z15, .ref z16, .ref z17, .ref z18, .ref z19, .int 0, .int 0, .ref z22, .ref z23, .ref z24, .ref z25, .ref z26, .ref z27, .ref z28, .ref z29, .ref z30, .ref z31, .ref z32, .ref z33, .int 0, .long 0, .ref z36, .ref z37, .ref z38, .ref z39, .ref z40, .ref z41, .ref z42, .ref z43, .ref z44, .ref z45, .ref z46, .ref z47, .ref z48, .int 0, .int 10, .int 0, .int 0, .int 0, .int 0, .ref z55, .ref z56, .int 0, .int 0, .ref z59, .ref z60, .ref z61, .int 0, .long 0])), (z10, .inl (γ.2.1 0, 10, .inl fa))] s H locs := hw
  refine lv_iload_n hx hb dX12_count_5 rfl (lv_at hl 1 rfl) ?_
  refine lv_iconst (v := 0) hx hb dX12_count_6 (by decide) ?_
  refine lv_bipush (v := 11) hx hb dX12_count_7 (by decide) ?_
  refine k_S (wr := [(z, .inr (11, [.int 0, .int 0, .ref z2, .int 0, .int 0, .int 0, .int 0, .long 0, .int 0, .int 0, .ref z10, .ref z11, .ref z12, .ref z13, .ref z14, .ref z15, .ref z16, .ref z17, .ref z18, .ref z19, .int 0, .int 0, .ref z22, .ref z23, .ref z24, .ref z25, .ref z26, .ref z27, .ref z28, .ref z29, .ref z30, .ref z31, .ref z32, .ref z33, .int 0, .long 0, .ref z36, .ref z37, .ref z38, .ref z39, .ref z40, .ref z41, .ref z42, .ref z43, .ref z44, .ref z45, .ref z46, .ref z47, .ref z48, .int 0, .int 10, .int 0, .int 0, .int 0, .int 0, .ref z55, .ref z56, .int 0, .int 0, .ref z59, .ref z60, .ref z61, .int 0, .long 0])), (z10, .inl (γ.2.1 0, 10, .inl fa))]) 3 gw_1472 gw_1473 gw_15 gw_1474 hd_X12_within hC hw (c_within_t γ l 2 0 11 (by decide) (by decide)) ⟨by decide, by decide⟩ ⟨by decide, by decide⟩ hl.1 rfl rfl (Nat.le_of_ble_eq_true rfl) [] [0, 1] rfl rfl rfl rfl (by decide) dX12_count_9 (fun r w1 H locs hq hw => ?_)
  obtain ⟨rfl, rfl⟩ := hq
  have hw : kW γ A [(z, .inr (11, [.int 0, .int 0, .ref z2, .int 0, .int 0, .int 0, .int 0, .long 0, .int 0, .int 0, .ref z10, .ref z11, .ref z12, .ref z13, .ref z14, .ref z15, .ref z16, .ref z17, .ref z18, .ref z19, .int 0, .int 0, .ref z22, .ref z23, .ref z24, .ref z25, .ref z26, .ref z27, .ref z28, .ref z29, .ref z30, .ref z31, .ref z32, .ref z33, .int 0, .long 0, .ref z36, .ref z37, .ref z38, .ref z39, .ref z40, .ref z41, .ref z42, .ref z43, .ref z44, .ref z45, .ref z46, .ref z47, .ref z48, .int 0, .int 10, .int 0, .int 0, .int 0, .int 0, .ref z55, .ref z56, .int 0, .int 0, .ref z59, .ref z60, .ref z61, .int 0, .long 0])), (z10, .inl (γ.2.1 0, 10, .inl fa))] s H locs := hw
  refine W.eq (g2 := F0 m 12 ls [.int 1]) rfl ?_
  refine lv_if_ne (tgt := 17) hx hb dX12_count_12 (by decide) (fun _ => ?_) (fun h => absurd h (by decide))
  refine lv_iload_n hx hb dX12_count_17 rfl (lv_at hl 1 rfl) ?_
  refine lv_iconst (v := 5) hx hb dX12_count_18 (by decide) ?_
  refine lv_icmp_ge (tgt := 29) hx hb dX12_count_19 (by decide) (fun h => absurd h (by decide)) (fun _ => ?_)
  refine lv_aload_n hx hb dX12_count_22 rfl (lv_at hl 0 rfl) ?_
  refine fg_RX12_13 hC hw 0 rfl rfl dX12_count_23 ?_
  refine lv_iload_n hx hb dX12_count_26 rfl (lv_at hl 1 rfl) ?_
  refine k_iald hC hw 1 rfl (k_in0 (by decide)) dX12_count_27 ?_
  refine lv_topi (fun x_1280 ex_1280 => ?_)
  obtain rfl : x_1280 = 10 := (show x_1280 = fa 2 from ex_1280).trans ha2
  exact k_iret hC hr hlocks hw [] rfl rfl ⟨rfl, rfl⟩ (by decide) (by decide) dX12_count_28

set_option maxHeartbeats 4000000 in
set_option maxRecDepth 100000 in
theorem c_X12_count_3 (γ : kΓ) (l : Launch) (z : Nat) (z2 : Nat) (z10 : Nat) (z11 : Nat) (z12 : Nat) (z13 : Nat) (z14 : Nat) (z15 : Nat) (z16 : Nat) (z17 : Nat) (z18 : Nat) (z19 : Nat) (z22 : Nat) (z23 : Nat) (z24 : Nat) (z25 : Nat) (z26 : Nat) (z27 : Nat) (z28 : Nat) (z29 : Nat) (z30 : Nat) (z31 : Nat) (z32 : Nat) (z33 : Nat) (z36 : Nat) (z37 : Nat) (z38 : Nat) (z39 : Nat) (z40 : Nat) (z41 : Nat) (z42 : Nat) (z43 : Nat) (z44 : Nat) (z45 : Nat) (z46 : Nat) (z47 : Nat) (z48 : Nat) (z55 : Nat) (z56 : Nat) (z59 : Nat) (z60 : Nat) (z61 : Nat) (fa : Nat → Int32) (ha0 : fa 0 = 0) (ha1 : fa 1 = 0) (ha2 : fa 2 = 10) (ha3 : fa 3 = 10) (ha4 : fa 4 = 3) : kM γ l yX12_count cX12_count 2 ((some .int)) ({ frames := 1, cells := 0, slots := 0, locals := 22 } : Room) [.ref z, .int 3] [(z, .inr (11, [.int 0, .int 0, .ref z2, .int 0, .int 0, .int 0, .int 0, .long 0, .int 0, .int 0, .ref z10, .ref z11, .ref z12, .ref z13, .ref z14, .ref z15, .ref z16, .ref z17, .ref z18, .ref z19, .int 0, .int 0, .ref z22, .ref z23, .ref z24, .ref z25, .ref z26, .ref z27, .ref z28, .ref z29, .ref z30, .ref z31, .ref z32, .ref z33, .int 0, .long 0, .ref z36, .ref z37, .ref z38, .ref z39, .ref z40, .ref z41, .ref z42, .ref z43, .ref z44, .ref z45, .ref z46, .ref z47, .ref z48, .int 0, .int 10, .int 0, .int 0, .int 0, .int 0, .ref z55, .ref z56, .int 0, .int 0, .ref z59, .ref z60, .ref z61, .int 0, .long 0])), (z10, .inl (γ.2.1 0, 10, .inl fa))] (fun r w1 => r = some (.int 10) ∧ w1 = []) := by
  refine k_ofW (by decide) (Nat.le_of_ble_eq_true rfl) ?_
  intro p e s m below meth c A ls hC hr hlocks hname hw hl
  have hx := hC.1
  have hb := hC.2.1
  have hl : lv_has ls 2 [(0, .ref z), (1, .int 3)] := hl
  refine lv_aload_n hx hb dX12_count_0 rfl (lv_at hl 0 rfl) ?_
  refine lv_iconst (v := 0) hx hb dX12_count_1 (by decide) ?_
  refine fs_RX12_143 hC hw 0 rfl rfl rfl (Nat.le_of_ble_eq_true rfl) dX12_count_2 (fun H locs hw => ?_)
  have hw : kW γ A [(z, .inr (11, [.int 0, .int 0, .ref z2, .int 0, .int 0, .int 0, .int 0, .long 0, .int 0, .int 0, .ref z10, .ref z11, .ref z12, .ref z13, .ref z14, .ref z15, .ref z16, .ref z17, .ref z18, .ref z19, .int 0, .int 0, .ref z22, .ref z23, .ref z24, .ref z25, .ref z26, .ref z27, .ref z28, .ref z29, .ref z30, .ref z31, .ref z32, .ref z33, .int 0, .long 0, .ref z36, .ref z37, .ref z38, .ref z39, .ref z40, .ref z41, .ref z42, .ref z43, .ref z44, .ref z45, .ref z46, .ref z47, .ref z48, .int 0, .int 10, .int 0, .int 0, .int 0, .int 0, .ref z55, .ref z56, .int 0, .int 0, .ref z59, .ref z60, .ref z61, .int 0, .long 0])), (z10, .inl (γ.2.1 0, 10, .inl fa))] s H locs := hw
  refine lv_iload_n hx hb dX12_count_5 rfl (lv_at hl 1 rfl) ?_
  refine lv_iconst (v := 0) hx hb dX12_count_6 (by decide) ?_
  refine lv_bipush (v := 11) hx hb dX12_count_7 (by decide) ?_
  refine k_S (wr := [(z, .inr (11, [.int 0, .int 0, .ref z2, .int 0, .int 0, .int 0, .int 0, .long 0, .int 0, .int 0, .ref z10, .ref z11, .ref z12, .ref z13, .ref z14, .ref z15, .ref z16, .ref z17, .ref z18, .ref z19, .int 0, .int 0, .ref z22, .ref z23, .ref z24, .ref z25, .ref z26, .ref z27, .ref z28, .ref z29, .ref z30, .ref z31, .ref z32, .ref z33, .int 0, .long 0, .ref z36, .ref z37, .ref z38, .ref z39, .ref z40, .ref z41, .ref z42, .ref z43, .ref z44, .ref z45, .ref z46, .ref z47, .ref z48, .int 0, .int 10, .int 0, .int 0, .int 0, .int 0, .ref z55, .ref z56, .int 0, .int 0, .ref z59, .ref z60, .ref z61, .int 0, .long 0])), (z10, .inl (γ.2.1 0, 10, .inl fa))]) 3 gw_1472 gw_1473 gw_15 gw_1474 hd_X12_within hC hw (c_within_t γ l 3 0 11 (by decide) (by decide)) ⟨by decide, by decide⟩ ⟨by decide, by decide⟩ hl.1 rfl rfl (Nat.le_of_ble_eq_true rfl) [] [0, 1] rfl rfl rfl rfl (by decide) dX12_count_9 (fun r w1 H locs hq hw => ?_)
  obtain ⟨rfl, rfl⟩ := hq
  have hw : kW γ A [(z, .inr (11, [.int 0, .int 0, .ref z2, .int 0, .int 0, .int 0, .int 0, .long 0, .int 0, .int 0, .ref z10, .ref z11, .ref z12, .ref z13, .ref z14, .ref z15, .ref z16, .ref z17, .ref z18, .ref z19, .int 0, .int 0, .ref z22, .ref z23, .ref z24, .ref z25, .ref z26, .ref z27, .ref z28, .ref z29, .ref z30, .ref z31, .ref z32, .ref z33, .int 0, .long 0, .ref z36, .ref z37, .ref z38, .ref z39, .ref z40, .ref z41, .ref z42, .ref z43, .ref z44, .ref z45, .ref z46, .ref z47, .ref z48, .int 0, .int 10, .int 0, .int 0, .int 0, .int 0, .ref z55, .ref z56, .int 0, .int 0, .ref z59, .ref z60, .ref z61, .int 0, .long 0])), (z10, .inl (γ.2.1 0, 10, .inl fa))] s H locs := hw
  refine W.eq (g2 := F0 m 12 ls [.int 1]) rfl ?_
  refine lv_if_ne (tgt := 17) hx hb dX12_count_12 (by decide) (fun _ => ?_) (fun h => absurd h (by decide))
  refine lv_iload_n hx hb dX12_count_17 rfl (lv_at hl 1 rfl) ?_
  refine lv_iconst (v := 5) hx hb dX12_count_18 (by decide) ?_
  refine lv_icmp_ge (tgt := 29) hx hb dX12_count_19 (by decide) (fun h => absurd h (by decide)) (fun _ => ?_)
  refine lv_aload_n hx hb dX12_count_22 rfl (lv_at hl 0 rfl) ?_
  refine fg_RX12_13 hC hw 0 rfl rfl dX12_count_23 ?_
  refine lv_iload_n hx hb dX12_count_26 rfl (lv_at hl 1 rfl) ?_
  refine k_iald hC hw 1 rfl (k_in0 (by decide)) dX12_count_27 ?_
  refine lv_topi (fun x_1281 ex_1281 => ?_)
  obtain rfl : x_1281 = 10 := (show x_1281 = fa 3 from ex_1281).trans ha3
  exact k_iret hC hr hlocks hw [] rfl rfl ⟨rfl, rfl⟩ (by decide) (by decide) dX12_count_28

set_option maxHeartbeats 4000000 in
set_option maxRecDepth 100000 in
theorem c_X12_count_4 (γ : kΓ) (l : Launch) (z : Nat) (z2 : Nat) (z10 : Nat) (z11 : Nat) (z12 : Nat) (z13 : Nat) (z14 : Nat) (z15 : Nat) (z16 : Nat) (z17 : Nat) (z18 : Nat) (z19 : Nat) (z22 : Nat) (z23 : Nat) (z24 : Nat) (z25 : Nat) (z26 : Nat) (z27 : Nat) (z28 : Nat) (z29 : Nat) (z30 : Nat) (z31 : Nat) (z32 : Nat) (z33 : Nat) (z36 : Nat) (z37 : Nat) (z38 : Nat) (z39 : Nat) (z40 : Nat) (z41 : Nat) (z42 : Nat) (z43 : Nat) (z44 : Nat) (z45 : Nat) (z46 : Nat) (z47 : Nat) (z48 : Nat) (z55 : Nat) (z56 : Nat) (z59 : Nat) (z60 : Nat) (z61 : Nat) (fa : Nat → Int32) (ha0 : fa 0 = 0) (ha1 : fa 1 = 0) (ha2 : fa 2 = 10) (ha3 : fa 3 = 10) (ha4 : fa 4 = 3) : kM γ l yX12_count cX12_count 2 ((some .int)) ({ frames := 1, cells := 0, slots := 0, locals := 22 } : Room) [.ref z, .int 4] [(z, .inr (11, [.int 0, .int 0, .ref z2, .int 0, .int 0, .int 0, .int 0, .long 0, .int 0, .int 0, .ref z10, .ref z11, .ref z12, .ref z13, .ref z14, .ref z15, .ref z16, .ref z17, .ref z18, .ref z19, .int 0, .int 0, .ref z22, .ref z23, .ref z24, .ref z25, .ref z26, .ref z27, .ref z28, .ref z29, .ref z30, .ref z31, .ref z32, .ref z33, .int 0, .long 0, .ref z36, .ref z37, .ref z38, .ref z39, .ref z40, .ref z41, .ref z42, .ref z43, .ref z44, .ref z45, .ref z46, .ref z47, .ref z48, .int 0, .int 10, .int 0, .int 0, .int 0, .int 0, .ref z55, .ref z56, .int 0, .int 0, .ref z59, .ref z60, .ref z61, .int 0, .long 0])), (z10, .inl (γ.2.1 0, 10, .inl fa))] (fun r w1 => r = some (.int 3) ∧ w1 = []) := by
  refine k_ofW (by decide) (Nat.le_of_ble_eq_true rfl) ?_
  intro p e s m below meth c A ls hC hr hlocks hname hw hl
  have hx := hC.1
  have hb := hC.2.1
  have hl : lv_has ls 2 [(0, .ref z), (1, .int 4)] := hl
  refine lv_aload_n hx hb dX12_count_0 rfl (lv_at hl 0 rfl) ?_
  refine lv_iconst (v := 0) hx hb dX12_count_1 (by decide) ?_
  refine fs_RX12_143 hC hw 0 rfl rfl rfl (Nat.le_of_ble_eq_true rfl) dX12_count_2 (fun H locs hw => ?_)
  have hw : kW γ A [(z, .inr (11, [.int 0, .int 0, .ref z2, .int 0, .int 0, .int 0, .int 0, .long 0, .int 0, .int 0, .ref z10, .ref z11, .ref z12, .ref z13, .ref z14, .ref z15, .ref z16, .ref z17, .ref z18, .ref z19, .int 0, .int 0, .ref z22, .ref z23, .ref z24, .ref z25, .ref z26, .ref z27, .ref z28, .ref z29, .ref z30, .ref z31, .ref z32, .ref z33, .int 0, .long 0, .ref z36, .ref z37, .ref z38, .ref z39, .ref z40, .ref z41, .ref z42, .ref z43, .ref z44, .ref z45, .ref z46, .ref z47, .ref z48, .int 0, .int 10, .int 0, .int 0, .int 0, .int 0, .ref z55, .ref z56, .int 0, .int 0, .ref z59, .ref z60, .ref z61, .int 0, .long 0])), (z10, .inl (γ.2.1 0, 10, .inl fa))] s H locs := hw
  refine lv_iload_n hx hb dX12_count_5 rfl (lv_at hl 1 rfl) ?_
  refine lv_iconst (v := 0) hx hb dX12_count_6 (by decide) ?_
  refine lv_bipush (v := 11) hx hb dX12_count_7 (by decide) ?_
  refine k_S (wr := [(z, .inr (11, [.int 0, .int 0, .ref z2, .int 0, .int 0, .int 0, .int 0, .long 0, .int 0, .int 0, .ref z10, .ref z11, .ref z12, .ref z13, .ref z14, .ref z15, .ref z16, .ref z17, .ref z18, .ref z19, .int 0, .int 0, .ref z22, .ref z23, .ref z24, .ref z25, .ref z26, .ref z27, .ref z28, .ref z29, .ref z30, .ref z31, .ref z32, .ref z33, .int 0, .long 0, .ref z36, .ref z37, .ref z38, .ref z39, .ref z40, .ref z41, .ref z42, .ref z43, .ref z44, .ref z45, .ref z46, .ref z47, .ref z48, .int 0, .int 10, .int 0, .int 0, .int 0, .int 0, .ref z55, .ref z56, .int 0, .int 0, .ref z59, .ref z60, .ref z61, .int 0, .long 0])), (z10, .inl (γ.2.1 0, 10, .inl fa))]) 3 gw_1472 gw_1473 gw_15 gw_1474 hd_X12_within hC hw (c_within_t γ l 4 0 11 (by decide) (by decide)) ⟨by decide, by decide⟩ ⟨by decide, by decide⟩ hl.1 rfl rfl (Nat.le_of_ble_eq_true rfl) [] [0, 1] rfl rfl rfl rfl (by decide) dX12_count_9 (fun r w1 H locs hq hw => ?_)
  obtain ⟨rfl, rfl⟩ := hq
  have hw : kW γ A [(z, .inr (11, [.int 0, .int 0, .ref z2, .int 0, .int 0, .int 0, .int 0, .long 0, .int 0, .int 0, .ref z10, .ref z11, .ref z12, .ref z13, .ref z14, .ref z15, .ref z16, .ref z17, .ref z18, .ref z19, .int 0, .int 0, .ref z22, .ref z23, .ref z24, .ref z25, .ref z26, .ref z27, .ref z28, .ref z29, .ref z30, .ref z31, .ref z32, .ref z33, .int 0, .long 0, .ref z36, .ref z37, .ref z38, .ref z39, .ref z40, .ref z41, .ref z42, .ref z43, .ref z44, .ref z45, .ref z46, .ref z47, .ref z48, .int 0, .int 10, .int 0, .int 0, .int 0, .int 0, .ref z55, .ref z56, .int 0, .int 0, .ref z59, .ref z60, .ref z61, .int 0, .long 0])), (z10, .inl (γ.2.1 0, 10, .inl fa))] s H locs := hw
  refine W.eq (g2 := F0 m 12 ls [.int 1]) rfl ?_
  refine lv_if_ne (tgt := 17) hx hb dX12_count_12 (by decide) (fun _ => ?_) (fun h => absurd h (by decide))
  refine lv_iload_n hx hb dX12_count_17 rfl (lv_at hl 1 rfl) ?_
  refine lv_iconst (v := 5) hx hb dX12_count_18 (by decide) ?_
  refine lv_icmp_ge (tgt := 29) hx hb dX12_count_19 (by decide) (fun h => absurd h (by decide)) (fun _ => ?_)
  refine lv_aload_n hx hb dX12_count_22 rfl (lv_at hl 0 rfl) ?_
  refine fg_RX12_13 hC hw 0 rfl rfl dX12_count_23 ?_
  refine lv_iload_n hx hb dX12_count_26 rfl (lv_at hl 1 rfl) ?_
  refine k_iald hC hw 1 rfl (k_in0 (by decide)) dX12_count_27 ?_
  refine lv_topi (fun x_1282 ex_1282 => ?_)
  obtain rfl : x_1282 = 3 := (show x_1282 = fa 4 from ex_1282).trans ha4
  exact k_iret hC hr hlocks hw [] rfl rfl ⟨rfl, rfl⟩ (by decide) (by decide) dX12_count_28

set_option maxHeartbeats 4000000 in
set_option maxRecDepth 100000 in
theorem c_X12_count_5 (γ : kΓ) (l : Launch) (z : Nat) (z2 : Nat) (z10 : Nat) (z11 : Nat) (z12 : Nat) (z13 : Nat) (z14 : Nat) (z15 : Nat) (z16 : Nat) (z17 : Nat) (z18 : Nat) (z19 : Nat) (z22 : Nat) (z23 : Nat) (z24 : Nat) (z25 : Nat) (z26 : Nat) (z27 : Nat) (z28 : Nat) (z29 : Nat) (z30 : Nat) (z31 : Nat) (z32 : Nat) (z33 : Nat) (z36 : Nat) (z37 : Nat) (z38 : Nat) (z39 : Nat) (z40 : Nat) (z41 : Nat) (z42 : Nat) (z43 : Nat) (z44 : Nat) (z45 : Nat) (z46 : Nat) (z47 : Nat) (z48 : Nat) (z55 : Nat) (z56 : Nat) (z59 : Nat) (z60 : Nat) (z61 : Nat) (fa : Nat → Int32) (ha0 : fa 0 = 0) (ha1 : fa 1 = 0) (ha2 : fa 2 = 10) (ha3 : fa 3 = 10) (ha4 : fa 4 = 3) : kM γ l yX12_count cX12_count 2 ((some .int)) ({ frames := 1, cells := 0, slots := 0, locals := 22 } : Room) [.ref z, .int 5] [(z, .inr (11, [.int 0, .int 0, .ref z2, .int 0, .int 0, .int 0, .int 0, .long 0, .int 0, .int 0, .ref z10, .ref z11, .ref z12, .ref z13, .ref z14, .ref z15, .ref z16, .ref z17, .ref z18, .ref z19, .int 0, .int 0, .ref z22, .ref z23, .ref z24, .ref z25, .ref z26, .ref z27, .ref z28, .ref z29, .ref z30, .ref z31, .ref z32, .ref z33, .int 0, .long 0, .ref z36, .ref z37, .ref z38, .ref z39, .ref z40, .ref z41, .ref z42, .ref z43, .ref z44, .ref z45, .ref z46, .ref z47, .ref z48, .int 0, .int 10, .int 0, .int 0, .int 0, .int 0, .ref z55, .ref z56, .int 0, .int 0, .ref z59, .ref z60, .ref z61, .int 0, .long 0])), (z10, .inl (γ.2.1 0, 10, .inl fa))] (fun r w1 => r = some (.int 0) ∧ w1 = []) := by
  refine k_ofW (by decide) (Nat.le_of_ble_eq_true rfl) ?_
  intro p e s m below meth c A ls hC hr hlocks hname hw hl
  have hx := hC.1
  have hb := hC.2.1
  have hl : lv_has ls 2 [(0, .ref z), (1, .int 5)] := hl
  refine lv_aload_n hx hb dX12_count_0 rfl (lv_at hl 0 rfl) ?_
  refine lv_iconst (v := 0) hx hb dX12_count_1 (by decide) ?_
  refine fs_RX12_143 hC hw 0 rfl rfl rfl (Nat.le_of_ble_eq_true rfl) dX12_count_2 (fun H locs hw => ?_)
  have hw : kW γ A [(z, .inr (11, [.int 0, .int 0, .ref z2, .int 0, .int 0, .int 0, .int 0, .long 0, .int 0, .int 0, .ref z10, .ref z11, .ref z12, .ref z13, .ref z14, .ref z15, .ref z16, .ref z17, .ref z18, .ref z19, .int 0, .int 0, .ref z22, .ref z23, .ref z24, .ref z25, .ref z26, .ref z27, .ref z28, .ref z29, .ref z30, .ref z31, .ref z32, .ref z33, .int 0, .long 0, .ref z36, .ref z37, .ref z38, .ref z39, .ref z40, .ref z41, .ref z42, .ref z43, .ref z44, .ref z45, .ref z46, .ref z47, .ref z48, .int 0, .int 10, .int 0, .int 0, .int 0, .int 0, .ref z55, .ref z56, .int 0, .int 0, .ref z59, .ref z60, .ref z61, .int 0, .long 0])), (z10, .inl (γ.2.1 0, 10, .inl fa))] s H locs := hw
  refine lv_iload_n hx hb dX12_count_5 rfl (lv_at hl 1 rfl) ?_
  refine lv_iconst (v := 0) hx hb dX12_count_6 (by decide) ?_
  refine lv_bipush (v := 11) hx hb dX12_count_7 (by decide) ?_
  refine k_S (wr := [(z, .inr (11, [.int 0, .int 0, .ref z2, .int 0, .int 0, .int 0, .int 0, .long 0, .int 0, .int 0, .ref z10, .ref z11, .ref z12, .ref z13, .ref z14, .ref z15, .ref z16, .ref z17, .ref z18, .ref z19, .int 0, .int 0, .ref z22, .ref z23, .ref z24, .ref z25, .ref z26, .ref z27, .ref z28, .ref z29, .ref z30, .ref z31, .ref z32, .ref z33, .int 0, .long 0, .ref z36, .ref z37, .ref z38, .ref z39, .ref z40, .ref z41, .ref z42, .ref z43, .ref z44, .ref z45, .ref z46, .ref z47, .ref z48, .int 0, .int 10, .int 0, .int 0, .int 0, .int 0, .ref z55, .ref z56, .int 0, .int 0, .ref z59, .ref z60, .ref z61, .int 0, .long 0])), (z10, .inl (γ.2.1 0, 10, .inl fa))]) 3 gw_1472 gw_1473 gw_15 gw_1474 hd_X12_within hC hw (c_within_t γ l 5 0 11 (by decide) (by decide)) ⟨by decide, by decide⟩ ⟨by decide, by decide⟩ hl.1 rfl rfl (Nat.le_of_ble_eq_true rfl) [] [0, 1] rfl rfl rfl rfl (by decide) dX12_count_9 (fun r w1 H locs hq hw => ?_)
  obtain ⟨rfl, rfl⟩ := hq
  have hw : kW γ A [(z, .inr (11, [.int 0, .int 0, .ref z2, .int 0, .int 0, .int 0, .int 0, .long 0, .int 0, .int 0, .ref z10, .ref z11, .ref z12, .ref z13, .ref z14, .ref z15, .ref z16, .ref z17, .ref z18, .ref z19, .int 0, .int 0, .ref z22, .ref z23, .ref z24, .ref z25, .ref z26, .ref z27, .ref z28, .ref z29, .ref z30, .ref z31, .ref z32, .ref z33, .int 0, .long 0, .ref z36, .ref z37, .ref z38, .ref z39, .ref z40, .ref z41, .ref z42, .ref z43, .ref z44, .ref z45, .ref z46, .ref z47, .ref z48, .int 0, .int 10, .int 0, .int 0, .int 0, .int 0, .ref z55, .ref z56, .int 0, .int 0, .ref z59, .ref z60, .ref z61, .int 0, .long 0])), (z10, .inl (γ.2.1 0, 10, .inl fa))] s H locs := hw
  refine W.eq (g2 := F0 m 12 ls [.int 1]) rfl ?_
  refine lv_if_ne (tgt := 17) hx hb dX12_count_12 (by decide) (fun _ => ?_) (fun h => absurd h (by decide))
  refine lv_iload_n hx hb dX12_count_17 rfl (lv_at hl 1 rfl) ?_
  refine lv_iconst (v := 5) hx hb dX12_count_18 (by decide) ?_
  refine lv_icmp_ge (tgt := 29) hx hb dX12_count_19 (by decide) (fun _ => ?_) (fun h => absurd (by decide) h)
  refine lv_iload_n hx hb dX12_count_29 rfl (lv_at hl 1 rfl) ?_
  refine lv_bipush (v := 8) hx hb dX12_count_30 (by decide) ?_
  refine lv_icmp_ge (tgt := 65) hx hb dX12_count_32 (by decide) (fun h => absurd h (by decide)) (fun _ => ?_)
  refine lv_iload_n hx hb dX12_count_35 rfl (lv_at hl 1 rfl) ?_
  refine lv_iconst (v := 5) hx hb dX12_count_36 (by decide) ?_
  refine lv_icmp_ne (tgt := 47) hx hb dX12_count_37 (by decide) (fun h => absurd rfl h) (fun _ => ?_)
  refine lv_aload_n hx hb dX12_count_40 rfl (lv_at hl 0 rfl) ?_
  refine k_V (wr := []) 0 gw_1720 gw_1722 gp_105 gw_15 gw_1723 hd_X12_whoRan hC hw (c_X12_whoRan γ l z z2 z10 z11 z12 z13 z14 z15 z16 z17 z18 z19 z22 z23 z24 z25 z26 z27 z28 z29 z30 z31 z32 z33 z36 z37 z38 z39 z40 z41 z42 z43 z44 z45 z46 z47 z48 z55 z56 z59 z60 z61 0 0 0 0 0 0 0 0 0 0 0 0 0 0 10 0 0 0 0 0 0 0 0 fa ha0 ha1 ha2 ha3 ha4) ⟨by decide, by decide⟩ ⟨by decide, by decide⟩ hl.1 rfl 0 rfl rfl rfl (Nat.le_of_ble_eq_true rfl) [0, 1] [] rfl rfl rfl rfl (by decide) dX12_count_41 (fun r w1 H locs hq hw => ?_)
  obtain ⟨rfl, rfl⟩ := hq
  have hw : kW γ A [(z, .inr (11, [.int 0, .int 0, .ref z2, .int 0, .int 0, .int 0, .int 0, .long 0, .int 0, .int 0, .ref z10, .ref z11, .ref z12, .ref z13, .ref z14, .ref z15, .ref z16, .ref z17, .ref z18, .ref z19, .int 0, .int 0, .ref z22, .ref z23, .ref z24, .ref z25, .ref z26, .ref z27, .ref z28, .ref z29, .ref z30, .ref z31, .ref z32, .ref z33, .int 0, .long 0, .ref z36, .ref z37, .ref z38, .ref z39, .ref z40, .ref z41, .ref z42, .ref z43, .ref z44, .ref z45, .ref z46, .ref z47, .ref z48, .int 0, .int 10, .int 0, .int 0, .int 0, .int 0, .ref z55, .ref z56, .int 0, .int 0, .ref z59, .ref z60, .ref z61, .int 0, .long 0])), (z10, .inl (γ.2.1 0, 10, .inl fa))] s H locs := hw
  refine W.eq (g2 := F0 m 44 ls [.int 0]) rfl ?_
  refine lv_goto (tgt := 64) hx hb dX12_count_44 (by decide) ?_
  exact k_iret hC hr hlocks hw [] rfl rfl ⟨rfl, rfl⟩ (by decide) (by decide) dX12_count_64

set_option maxHeartbeats 4000000 in
set_option maxRecDepth 100000 in
theorem c_X12_count_6 (γ : kΓ) (l : Launch) (z : Nat) (z2 : Nat) (z10 : Nat) (z11 : Nat) (z12 : Nat) (z13 : Nat) (z14 : Nat) (z15 : Nat) (z16 : Nat) (z17 : Nat) (z18 : Nat) (z19 : Nat) (z22 : Nat) (z23 : Nat) (z24 : Nat) (z25 : Nat) (z26 : Nat) (z27 : Nat) (z28 : Nat) (z29 : Nat) (z30 : Nat) (z31 : Nat) (z32 : Nat) (z33 : Nat) (z36 : Nat) (z37 : Nat) (z38 : Nat) (z39 : Nat) (z40 : Nat) (z41 : Nat) (z42 : Nat) (z43 : Nat) (z44 : Nat) (z45 : Nat) (z46 : Nat) (z47 : Nat) (z48 : Nat) (z55 : Nat) (z56 : Nat) (z59 : Nat) (z60 : Nat) (z61 : Nat) (fa : Nat → Int32) (ha0 : fa 0 = 0) (ha1 : fa 1 = 0) (ha2 : fa 2 = 10) (ha3 : fa 3 = 10) (ha4 : fa 4 = 3) : kM γ l yX12_count cX12_count 2 ((some .int)) ({ frames := 1, cells := 0, slots := 0, locals := 22 } : Room) [.ref z, .int 6] [(z, .inr (11, [.int 0, .int 0, .ref z2, .int 0, .int 0, .int 0, .int 0, .long 0, .int 0, .int 0, .ref z10, .ref z11, .ref z12, .ref z13, .ref z14, .ref z15, .ref z16, .ref z17, .ref z18, .ref z19, .int 0, .int 0, .ref z22, .ref z23, .ref z24, .ref z25, .ref z26, .ref z27, .ref z28, .ref z29, .ref z30, .ref z31, .ref z32, .ref z33, .int 0, .long 0, .ref z36, .ref z37, .ref z38, .ref z39, .ref z40, .ref z41, .ref z42, .ref z43, .ref z44, .ref z45, .ref z46, .ref z47, .ref z48, .int 0, .int 10, .int 0, .int 0, .int 0, .int 0, .ref z55, .ref z56, .int 0, .int 0, .ref z59, .ref z60, .ref z61, .int 0, .long 0])), (z10, .inl (γ.2.1 0, 10, .inl fa)), (z43, .inl (γ.2.1 0, 133, .inl (fun _ => 0)))] (fun r w1 => r = some (.int 0) ∧ w1 = []) := by
  refine k_ofW (by decide) (Nat.le_of_ble_eq_true rfl) ?_
  intro p e s m below meth c A ls hC hr hlocks hname hw hl
  have hx := hC.1
  have hb := hC.2.1
  have hl : lv_has ls 2 [(0, .ref z), (1, .int 6)] := hl
  refine lv_aload_n hx hb dX12_count_0 rfl (lv_at hl 0 rfl) ?_
  refine lv_iconst (v := 0) hx hb dX12_count_1 (by decide) ?_
  refine fs_RX12_143 hC hw 0 rfl rfl rfl (Nat.le_of_ble_eq_true rfl) dX12_count_2 (fun H locs hw => ?_)
  have hw : kW γ A [(z, .inr (11, [.int 0, .int 0, .ref z2, .int 0, .int 0, .int 0, .int 0, .long 0, .int 0, .int 0, .ref z10, .ref z11, .ref z12, .ref z13, .ref z14, .ref z15, .ref z16, .ref z17, .ref z18, .ref z19, .int 0, .int 0, .ref z22, .ref z23, .ref z24, .ref z25, .ref z26, .ref z27, .ref z28, .ref z29, .ref z30, .ref z31, .ref z32, .ref z33, .int 0, .long 0, .ref z36, .ref z37, .ref z38, .ref z39, .ref z40, .ref z41, .ref z42, .ref z43, .ref z44, .ref z45, .ref z46, .ref z47, .ref z48, .int 0, .int 10, .int 0, .int 0, .int 0, .int 0, .ref z55, .ref z56, .int 0, .int 0, .ref z59, .ref z60, .ref z61, .int 0, .long 0])), (z10, .inl (γ.2.1 0, 10, .inl fa)), (z43, .inl (γ.2.1 0, 133, .inl (fun _ => 0)))] s H locs := hw
  refine lv_iload_n hx hb dX12_count_5 rfl (lv_at hl 1 rfl) ?_
  refine lv_iconst (v := 0) hx hb dX12_count_6 (by decide) ?_
  refine lv_bipush (v := 11) hx hb dX12_count_7 (by decide) ?_
  refine k_S (wr := [(z, .inr (11, [.int 0, .int 0, .ref z2, .int 0, .int 0, .int 0, .int 0, .long 0, .int 0, .int 0, .ref z10, .ref z11, .ref z12, .ref z13, .ref z14, .ref z15, .ref z16, .ref z17, .ref z18, .ref z19, .int 0, .int 0, .ref z22, .ref z23, .ref z24, .ref z25, .ref z26, .ref z27, .ref z28, .ref z29, .ref z30, .ref z31, .ref z32, .ref z33, .int 0, .long 0, .ref z36, .ref z37, .ref z38, .ref z39, .ref z40, .ref z41, .ref z42, .ref z43, .ref z44, .ref z45, .ref z46, .ref z47, .ref z48, .int 0, .int 10, .int 0, .int 0, .int 0, .int 0, .ref z55, .ref z56, .int 0, .int 0, .ref z59, .ref z60, .ref z61, .int 0, .long 0])), (z10, .inl (γ.2.1 0, 10, .inl fa)), (z43, .inl (γ.2.1 0, 133, .inl (fun _ => 0)))]) 3 gw_1472 gw_1473 gw_15 gw_1474 hd_X12_within hC hw (c_within_t γ l 6 0 11 (by decide) (by decide)) ⟨by decide, by decide⟩ ⟨by decide, by decide⟩ hl.1 rfl rfl (Nat.le_of_ble_eq_true rfl) [] [0, 1, 2] rfl rfl rfl rfl (by decide) dX12_count_9 (fun r w1 H locs hq hw => ?_)
  obtain ⟨rfl, rfl⟩ := hq
  have hw : kW γ A [(z, .inr (11, [.int 0, .int 0, .ref z2, .int 0, .int 0, .int 0, .int 0, .long 0, .int 0, .int 0, .ref z10, .ref z11, .ref z12, .ref z13, .ref z14, .ref z15, .ref z16, .ref z17, .ref z18, .ref z19, .int 0, .int 0, .ref z22, .ref z23, .ref z24, .ref z25, .ref z26, .ref z27, .ref z28, .ref z29, .ref z30, .ref z31, .ref z32, .ref z33, .int 0, .long 0, .ref z36, .ref z37, .ref z38, .ref z39, .ref z40, .ref z41, .ref z42, .ref z43, .ref z44, .ref z45, .ref z46, .ref z47, .ref z48, .int 0, .int 10, .int 0, .int 0, .int 0, .int 0, .ref z55, .ref z56, .int 0, .int 0, .ref z59, .ref z60, .ref z61, .int 0, .long 0])), (z10, .inl (γ.2.1 0, 10, .inl fa)), (z43, .inl (γ.2.1 0, 133, .inl (fun _ => 0)))] s H locs := hw
  refine W.eq (g2 := F0 m 12 ls [.int 1]) rfl ?_
  refine lv_if_ne (tgt := 17) hx hb dX12_count_12 (by decide) (fun _ => ?_) (fun h => absurd h (by decide))
  refine lv_iload_n hx hb dX12_count_17 rfl (lv_at hl 1 rfl) ?_
  refine lv_iconst (v := 5) hx hb dX12_count_18 (by decide) ?_
  refine lv_icmp_ge (tgt := 29) hx hb dX12_count_19 (by decide) (fun _ => ?_) (fun h => absurd (by decide) h)
  refine lv_iload_n hx hb dX12_count_29 rfl (lv_at hl 1 rfl) ?_
  refine lv_bipush (v := 8) hx hb dX12_count_30 (by decide) ?_
  refine lv_icmp_ge (tgt := 65) hx hb dX12_count_32 (by decide) (fun h => absurd h (by decide)) (fun _ => ?_)
  refine lv_iload_n hx hb dX12_count_35 rfl (lv_at hl 1 rfl) ?_
  refine lv_iconst (v := 5) hx hb dX12_count_36 (by decide) ?_
  refine lv_icmp_ne (tgt := 47) hx hb dX12_count_37 (by decide) (fun _ => ?_) (fun h => absurd h (by decide))
  refine lv_iload_n hx hb dX12_count_47 rfl (lv_at hl 1 rfl) ?_
  refine lv_bipush (v := 6) hx hb dX12_count_48 (by decide) ?_
  refine lv_icmp_ne (tgt := 60) hx hb dX12_count_50 (by decide) (fun h => absurd rfl h) (fun _ => ?_)
  refine lv_aload_n hx hb dX12_count_53 rfl (lv_at hl 0 rfl) ?_
  refine k_V (wr := [(z10, .inl (γ.2.1 0, 10, .inl fa))]) 0 gw_1604 gw_1606 gp_89 gw_15 gw_1607 hd_X12_inBarn hC hw (c_X12_inBarn γ l z z2 z10 z11 z12 z13 z14 z15 z16 z17 z18 z19 z22 z23 z24 z25 z26 z27 z28 z29 z30 z31 z32 z33 z36 z37 z38 z39 z40 z41 z42 z43 z44 z45 z46 z47 z48 z55 z56 z59 z60 z61) ⟨by decide, by decide⟩ ⟨by decide, by decide⟩ hl.1 rfl 0 rfl rfl rfl (Nat.le_of_ble_eq_true rfl) [0, 2] [1] rfl rfl rfl rfl (by decide) dX12_count_54 (fun r w1 H locs hq hw => ?_)
  obtain ⟨rfl, rfl⟩ := hq
  have hw : kW γ A [(z10, .inl (γ.2.1 0, 10, .inl fa)), (z, .inr (11, [.int 0, .int 0, .ref z2, .int 0, .int 0, .int 0, .int 0, .long 0, .int 0, .int 0, .ref z10, .ref z11, .ref z12, .ref z13, .ref z14, .ref z15, .ref z16, .ref z17, .ref z18, .ref z19, .int 0, .int 0, .ref z22, .ref z23, .ref z24, .ref z25, .ref z26, .ref z27, .ref z28, .ref z29, .ref z30, .ref z31, .ref z32, .ref z33, .int 0, .long 0, .ref z36, .ref z37, .ref z38, .ref z39, .ref z40, .ref z41, .ref z42, .ref z43, .ref z44, .ref z45, .ref z46, .ref z47, .ref z48, .int 0, .int 10, .int 0, .int 0, .int 0, .int 0, .ref z55, .ref z56, .int 0, .int 0, .ref z59, .ref z60, .ref z61, .int 0, .long 0])), (z43, .inl (γ.2.1 0, 133, .inl (fun _ => 0)))] s H locs := hw
  refine W.eq (g2 := F0 m 57 ls [.int 0]) rfl ?_
  refine lv_goto (tgt := 64) hx hb dX12_count_57 (by decide) ?_
  exact k_iret hC hr hlocks hw [] rfl rfl ⟨rfl, rfl⟩ (by decide) (by decide) dX12_count_64

set_option maxHeartbeats 4000000 in
set_option maxRecDepth 100000 in
theorem c_X12_count_7 (γ : kΓ) (l : Launch) (z : Nat) (z2 : Nat) (z10 : Nat) (z11 : Nat) (z12 : Nat) (z13 : Nat) (z14 : Nat) (z15 : Nat) (z16 : Nat) (z17 : Nat) (z18 : Nat) (z19 : Nat) (z22 : Nat) (z23 : Nat) (z24 : Nat) (z25 : Nat) (z26 : Nat) (z27 : Nat) (z28 : Nat) (z29 : Nat) (z30 : Nat) (z31 : Nat) (z32 : Nat) (z33 : Nat) (z36 : Nat) (z37 : Nat) (z38 : Nat) (z39 : Nat) (z40 : Nat) (z41 : Nat) (z42 : Nat) (z43 : Nat) (z44 : Nat) (z45 : Nat) (z46 : Nat) (z47 : Nat) (z48 : Nat) (z55 : Nat) (z56 : Nat) (z59 : Nat) (z60 : Nat) (z61 : Nat) (fa : Nat → Int32) (ha0 : fa 0 = 0) (ha1 : fa 1 = 0) (ha2 : fa 2 = 10) (ha3 : fa 3 = 10) (ha4 : fa 4 = 3) : kM γ l yX12_count cX12_count 2 ((some .int)) ({ frames := 1, cells := 0, slots := 0, locals := 22 } : Room) [.ref z, .int 7] [(z, .inr (11, [.int 0, .int 0, .ref z2, .int 0, .int 0, .int 0, .int 0, .long 0, .int 0, .int 0, .ref z10, .ref z11, .ref z12, .ref z13, .ref z14, .ref z15, .ref z16, .ref z17, .ref z18, .ref z19, .int 0, .int 0, .ref z22, .ref z23, .ref z24, .ref z25, .ref z26, .ref z27, .ref z28, .ref z29, .ref z30, .ref z31, .ref z32, .ref z33, .int 0, .long 0, .ref z36, .ref z37, .ref z38, .ref z39, .ref z40, .ref z41, .ref z42, .ref z43, .ref z44, .ref z45, .ref z46, .ref z47, .ref z48, .int 0, .int 10, .int 0, .int 0, .int 0, .int 0, .ref z55, .ref z56, .int 0, .int 0, .ref z59, .ref z60, .ref z61, .int 0, .long 0])), (z10, .inl (γ.2.1 0, 10, .inl fa))] (fun r w1 => r = some (.int 0) ∧ w1 = []) := by
  refine k_ofW (by decide) (Nat.le_of_ble_eq_true rfl) ?_
  intro p e s m below meth c A ls hC hr hlocks hname hw hl
  have hx := hC.1
  have hb := hC.2.1
  have hl : lv_has ls 2 [(0, .ref z), (1, .int 7)] := hl
  refine lv_aload_n hx hb dX12_count_0 rfl (lv_at hl 0 rfl) ?_
  refine lv_iconst (v := 0) hx hb dX12_count_1 (by decide) ?_
  refine fs_RX12_143 hC hw 0 rfl rfl rfl (Nat.le_of_ble_eq_true rfl) dX12_count_2 (fun H locs hw => ?_)
  have hw : kW γ A [(z, .inr (11, [.int 0, .int 0, .ref z2, .int 0, .int 0, .int 0, .int 0, .long 0, .int 0, .int 0, .ref z10, .ref z11, .ref z12, .ref z13, .ref z14, .ref z15, .ref z16, .ref z17, .ref z18, .ref z19, .int 0, .int 0, .ref z22, .ref z23, .ref z24, .ref z25, .ref z26, .ref z27, .ref z28, .ref z29, .ref z30, .ref z31, .ref z32, .ref z33, .int 0, .long 0, .ref z36, .ref z37, .ref z38, .ref z39, .ref z40, .ref z41, .ref z42, .ref z43, .ref z44, .ref z45, .ref z46, .ref z47, .ref z48, .int 0, .int 10, .int 0, .int 0, .int 0, .int 0, .ref z55, .ref z56, .int 0, .int 0, .ref z59, .ref z60, .ref z61, .int 0, .long 0])), (z10, .inl (γ.2.1 0, 10, .inl fa))] s H locs := hw
  refine lv_iload_n hx hb dX12_count_5 rfl (lv_at hl 1 rfl) ?_
  refine lv_iconst (v := 0) hx hb dX12_count_6 (by decide) ?_
  refine lv_bipush (v := 11) hx hb dX12_count_7 (by decide) ?_
  refine k_S (wr := [(z, .inr (11, [.int 0, .int 0, .ref z2, .int 0, .int 0, .int 0, .int 0, .long 0, .int 0, .int 0, .ref z10, .ref z11, .ref z12, .ref z13, .ref z14, .ref z15, .ref z16, .ref z17, .ref z18, .ref z19, .int 0, .int 0, .ref z22, .ref z23, .ref z24, .ref z25, .ref z26, .ref z27, .ref z28, .ref z29, .ref z30, .ref z31, .ref z32, .ref z33, .int 0, .long 0, .ref z36, .ref z37, .ref z38, .ref z39, .ref z40, .ref z41, .ref z42, .ref z43, .ref z44, .ref z45, .ref z46, .ref z47, .ref z48, .int 0, .int 10, .int 0, .int 0, .int 0, .int 0, .ref z55, .ref z56, .int 0, .int 0, .ref z59, .ref z60, .ref z61, .int 0, .long 0])), (z10, .inl (γ.2.1 0, 10, .inl fa))]) 3 gw_1472 gw_1473 gw_15 gw_1474 hd_X12_within hC hw (c_within_t γ l 7 0 11 (by decide) (by decide)) ⟨by decide, by decide⟩ ⟨by decide, by decide⟩ hl.1 rfl rfl (Nat.le_of_ble_eq_true rfl) [] [0, 1] rfl rfl rfl rfl (by decide) dX12_count_9 (fun r w1 H locs hq hw => ?_)
  obtain ⟨rfl, rfl⟩ := hq
  have hw : kW γ A [(z, .inr (11, [.int 0, .int 0, .ref z2, .int 0, .int 0, .int 0, .int 0, .long 0, .int 0, .int 0, .ref z10, .ref z11, .ref z12, .ref z13, .ref z14, .ref z15, .ref z16, .ref z17, .ref z18, .ref z19, .int 0, .int 0, .ref z22, .ref z23, .ref z24, .ref z25, .ref z26, .ref z27, .ref z28, .ref z29, .ref z30, .ref z31, .ref z32, .ref z33, .int 0, .long 0, .ref z36, .ref z37, .ref z38, .ref z39, .ref z40, .ref z41, .ref z42, .ref z43, .ref z44, .ref z45, .ref z46, .ref z47, .ref z48, .int 0, .int 10, .int 0, .int 0, .int 0, .int 0, .ref z55, .ref z56, .int 0, .int 0, .ref z59, .ref z60, .ref z61, .int 0, .long 0])), (z10, .inl (γ.2.1 0, 10, .inl fa))] s H locs := hw
  refine W.eq (g2 := F0 m 12 ls [.int 1]) rfl ?_
  refine lv_if_ne (tgt := 17) hx hb dX12_count_12 (by decide) (fun _ => ?_) (fun h => absurd h (by decide))
  refine lv_iload_n hx hb dX12_count_17 rfl (lv_at hl 1 rfl) ?_
  refine lv_iconst (v := 5) hx hb dX12_count_18 (by decide) ?_
  refine lv_icmp_ge (tgt := 29) hx hb dX12_count_19 (by decide) (fun _ => ?_) (fun h => absurd (by decide) h)
  refine lv_iload_n hx hb dX12_count_29 rfl (lv_at hl 1 rfl) ?_
  refine lv_bipush (v := 8) hx hb dX12_count_30 (by decide) ?_
  refine lv_icmp_ge (tgt := 65) hx hb dX12_count_32 (by decide) (fun h => absurd h (by decide)) (fun _ => ?_)
  refine lv_iload_n hx hb dX12_count_35 rfl (lv_at hl 1 rfl) ?_
  refine lv_iconst (v := 5) hx hb dX12_count_36 (by decide) ?_
  refine lv_icmp_ne (tgt := 47) hx hb dX12_count_37 (by decide) (fun _ => ?_) (fun h => absurd h (by decide))
  refine lv_iload_n hx hb dX12_count_47 rfl (lv_at hl 1 rfl) ?_
  refine lv_bipush (v := 6) hx hb dX12_count_48 (by decide) ?_
  refine lv_icmp_ne (tgt := 60) hx hb dX12_count_50 (by decide) (fun _ => ?_) (fun h => absurd h (by decide))
  refine lv_aload_n hx hb dX12_count_60 rfl (lv_at hl 0 rfl) ?_
  refine k_V (wr := []) 0 gw_1815 gw_1817 gp_113 gw_15 gw_1818 hd_X12_worthInBarn hC hw (c_X12_worthInBarn γ l z z2 z10 z11 z12 z13 z14 z15 z16 z17 z18 z19 z22 z23 z24 z25 z26 z27 z28 z29 z30 z31 z32 z33 z36 z37 z38 z39 z40 z41 z42 z43 z44 z45 z46 z47 z48 z55 z56 z59 z60 z61 fa ha0 ha1 ha2 ha3 ha4) ⟨by decide, by decide⟩ ⟨by decide, by decide⟩ hl.1 rfl 0 rfl rfl rfl (Nat.le_of_ble_eq_true rfl) [0, 1] [] rfl rfl rfl rfl (by decide) dX12_count_61 (fun r w1 H locs hq hw => ?_)
  obtain ⟨rfl, rfl⟩ := hq
  have hw : kW γ A [(z, .inr (11, [.int 0, .int 0, .ref z2, .int 0, .int 0, .int 0, .int 0, .long 0, .int 0, .int 0, .ref z10, .ref z11, .ref z12, .ref z13, .ref z14, .ref z15, .ref z16, .ref z17, .ref z18, .ref z19, .int 0, .int 0, .ref z22, .ref z23, .ref z24, .ref z25, .ref z26, .ref z27, .ref z28, .ref z29, .ref z30, .ref z31, .ref z32, .ref z33, .int 0, .long 0, .ref z36, .ref z37, .ref z38, .ref z39, .ref z40, .ref z41, .ref z42, .ref z43, .ref z44, .ref z45, .ref z46, .ref z47, .ref z48, .int 0, .int 10, .int 0, .int 0, .int 0, .int 0, .ref z55, .ref z56, .int 0, .int 0, .ref z59, .ref z60, .ref z61, .int 0, .long 0])), (z10, .inl (γ.2.1 0, 10, .inl fa))] s H locs := hw
  refine W.eq (g2 := F0 m 64 ls [.int 0]) rfl ?_
  exact k_iret hC hr hlocks hw [] rfl rfl ⟨rfl, rfl⟩ (by decide) (by decide) dX12_count_64

set_option maxHeartbeats 4000000 in
set_option maxRecDepth 100000 in
theorem c_X12_count_8 (γ : kΓ) (l : Launch) (z : Nat) (z2 : Nat) (z10 : Nat) (z11 : Nat) (z12 : Nat) (z13 : Nat) (z14 : Nat) (z15 : Nat) (z16 : Nat) (z17 : Nat) (z18 : Nat) (z19 : Nat) (z22 : Nat) (z23 : Nat) (z24 : Nat) (z25 : Nat) (z26 : Nat) (z27 : Nat) (z28 : Nat) (z29 : Nat) (z30 : Nat) (z31 : Nat) (z32 : Nat) (z33 : Nat) (z36 : Nat) (z37 : Nat) (z38 : Nat) (z39 : Nat) (z40 : Nat) (z41 : Nat) (z42 : Nat) (z43 : Nat) (z44 : Nat) (z45 : Nat) (z46 : Nat) (z47 : Nat) (z48 : Nat) (z55 : Nat) (z56 : Nat) (z59 : Nat) (z60 : Nat) (z61 : Nat) (fa : Nat → Int32) (ha0 : fa 0 = 0) (ha1 : fa 1 = 0) (ha2 : fa 2 = 10) (ha3 : fa 3 = 10) (ha4 : fa 4 = 3) : kM γ l yX12_count cX12_count 2 ((some .int)) ({ frames := 1, cells := 0, slots := 0, locals := 22 } : Room) [.ref z, .int 8] [(z, .inr (11, [.int 0, .int 0, .ref z2, .int 0, .int 0, .int 0, .int 0, .long 0, .int 0, .int 0, .ref z10, .ref z11, .ref z12, .ref z13, .ref z14, .ref z15, .ref z16, .ref z17, .ref z18, .ref z19, .int 0, .int 0, .ref z22, .ref z23, .ref z24, .ref z25, .ref z26, .ref z27, .ref z28, .ref z29, .ref z30, .ref z31, .ref z32, .ref z33, .int 0, .long 0, .ref z36, .ref z37, .ref z38, .ref z39, .ref z40, .ref z41, .ref z42, .ref z43, .ref z44, .ref z45, .ref z46, .ref z47, .ref z48, .int 0, .int 10, .int 0, .int 0, .int 0, .int 0, .ref z55, .ref z56, .int 0, .int 0, .ref z59, .ref z60, .ref z61, .int 0, .long 0])), (z10, .inl (γ.2.1 0, 10, .inl fa)), (z36, .inl (γ.2.1 0, 6, .inl (fun _ => 0)))] (fun r w1 => r = some (.int 0) ∧ w1 = []) := by
  refine k_ofW (by decide) (Nat.le_of_ble_eq_true rfl) ?_
  intro p e s m below meth c A ls hC hr hlocks hname hw hl
  have hx := hC.1
  have hb := hC.2.1
  have hl : lv_has ls 2 [(0, .ref z), (1, .int 8)] := hl
  refine lv_aload_n hx hb dX12_count_0 rfl (lv_at hl 0 rfl) ?_
  refine lv_iconst (v := 0) hx hb dX12_count_1 (by decide) ?_
  refine fs_RX12_143 hC hw 0 rfl rfl rfl (Nat.le_of_ble_eq_true rfl) dX12_count_2 (fun H locs hw => ?_)
  have hw : kW γ A [(z, .inr (11, [.int 0, .int 0, .ref z2, .int 0, .int 0, .int 0, .int 0, .long 0, .int 0, .int 0, .ref z10, .ref z11, .ref z12, .ref z13, .ref z14, .ref z15, .ref z16, .ref z17, .ref z18, .ref z19, .int 0, .int 0, .ref z22, .ref z23, .ref z24, .ref z25, .ref z26, .ref z27, .ref z28, .ref z29, .ref z30, .ref z31, .ref z32, .ref z33, .int 0, .long 0, .ref z36, .ref z37, .ref z38, .ref z39, .ref z40, .ref z41, .ref z42, .ref z43, .ref z44, .ref z45, .ref z46, .ref z47, .ref z48, .int 0, .int 10, .int 0, .int 0, .int 0, .int 0, .ref z55, .ref z56, .int 0, .int 0, .ref z59, .ref z60, .ref z61, .int 0, .long 0])), (z10, .inl (γ.2.1 0, 10, .inl fa)), (z36, .inl (γ.2.1 0, 6, .inl (fun _ => 0)))] s H locs := hw
  refine lv_iload_n hx hb dX12_count_5 rfl (lv_at hl 1 rfl) ?_
  refine lv_iconst (v := 0) hx hb dX12_count_6 (by decide) ?_
  refine lv_bipush (v := 11) hx hb dX12_count_7 (by decide) ?_
  refine k_S (wr := [(z, .inr (11, [.int 0, .int 0, .ref z2, .int 0, .int 0, .int 0, .int 0, .long 0, .int 0, .int 0, .ref z10, .ref z11, .ref z12, .ref z13, .ref z14, .ref z15, .ref z16, .ref z17, .ref z18, .ref z19, .int 0, .int 0, .ref z22, .ref z23, .ref z24, .ref z25, .ref z26, .ref z27, .ref z28, .ref z29, .ref z30, .ref z31, .ref z32, .ref z33, .int 0, .long 0, .ref z36, .ref z37, .ref z38, .ref z39, .ref z40, .ref z41, .ref z42, .ref z43, .ref z44, .ref z45, .ref z46, .ref z47, .ref z48, .int 0, .int 10, .int 0, .int 0, .int 0, .int 0, .ref z55, .ref z56, .int 0, .int 0, .ref z59, .ref z60, .ref z61, .int 0, .long 0])), (z10, .inl (γ.2.1 0, 10, .inl fa)), (z36, .inl (γ.2.1 0, 6, .inl (fun _ => 0)))]) 3 gw_1472 gw_1473 gw_15 gw_1474 hd_X12_within hC hw (c_within_t γ l 8 0 11 (by decide) (by decide)) ⟨by decide, by decide⟩ ⟨by decide, by decide⟩ hl.1 rfl rfl (Nat.le_of_ble_eq_true rfl) [] [0, 1, 2] rfl rfl rfl rfl (by decide) dX12_count_9 (fun r w1 H locs hq hw => ?_)
  obtain ⟨rfl, rfl⟩ := hq
  have hw : kW γ A [(z, .inr (11, [.int 0, .int 0, .ref z2, .int 0, .int 0, .int 0, .int 0, .long 0, .int 0, .int 0, .ref z10, .ref z11, .ref z12, .ref z13, .ref z14, .ref z15, .ref z16, .ref z17, .ref z18, .ref z19, .int 0, .int 0, .ref z22, .ref z23, .ref z24, .ref z25, .ref z26, .ref z27, .ref z28, .ref z29, .ref z30, .ref z31, .ref z32, .ref z33, .int 0, .long 0, .ref z36, .ref z37, .ref z38, .ref z39, .ref z40, .ref z41, .ref z42, .ref z43, .ref z44, .ref z45, .ref z46, .ref z47, .ref z48, .int 0, .int 10, .int 0, .int 0, .int 0, .int 0, .ref z55, .ref z56, .int 0, .int 0, .ref z59, .ref z60, .ref z61, .int 0, .long 0])), (z10, .inl (γ.2.1 0, 10, .inl fa)), (z36, .inl (γ.2.1 0, 6, .inl (fun _ => 0)))] s H locs := hw
  refine W.eq (g2 := F0 m 12 ls [.int 1]) rfl ?_
  refine lv_if_ne (tgt := 17) hx hb dX12_count_12 (by decide) (fun _ => ?_) (fun h => absurd h (by decide))
  refine lv_iload_n hx hb dX12_count_17 rfl (lv_at hl 1 rfl) ?_
  refine lv_iconst (v := 5) hx hb dX12_count_18 (by decide) ?_
  refine lv_icmp_ge (tgt := 29) hx hb dX12_count_19 (by decide) (fun _ => ?_) (fun h => absurd (by decide) h)
  refine lv_iload_n hx hb dX12_count_29 rfl (lv_at hl 1 rfl) ?_
  refine lv_bipush (v := 8) hx hb dX12_count_30 (by decide) ?_
  refine lv_icmp_ge (tgt := 65) hx hb dX12_count_32 (by decide) (fun _ => ?_) (fun h => absurd (by decide) h)
  refine lv_iload_n hx hb dX12_count_65 rfl (lv_at hl 1 rfl) ?_
  refine lv_bipush (v := 10) hx hb dX12_count_66 (by decide) ?_
  refine lv_icmp_ge (tgt := 93) hx hb dX12_count_68 (by decide) (fun h => absurd h (by decide)) (fun _ => ?_)
  refine lv_iload_n hx hb dX12_count_71 rfl (lv_at hl 1 rfl) ?_
  refine lv_bipush (v := 8) hx hb dX12_count_72 (by decide) ?_
  refine lv_icmp_ne (tgt := 86) hx hb dX12_count_74 (by decide) (fun h => absurd rfl h) (fun _ => ?_)
  refine lv_aload_n hx hb dX12_count_77 rfl (lv_at hl 0 rfl) ?_
  refine fg_RX12_81 hC hw 0 rfl rfl dX12_count_78 ?_
  refine lv_iconst (v := 0) hx hb dX12_count_81 (by decide) ?_
  refine k_iald hC hw 2 rfl (k_in0 (by decide)) dX12_count_82 ?_
  refine lv_topi (fun x_1283 ex_1283 => ?_)
  obtain rfl : x_1283 = 0 := ex_1283
  refine lv_goto (tgt := 92) hx hb dX12_count_83 (by decide) ?_
  exact k_iret hC hr hlocks hw [] rfl rfl ⟨rfl, rfl⟩ (by decide) (by decide) dX12_count_92

set_option maxHeartbeats 4000000 in
set_option maxRecDepth 100000 in
theorem c_X12_count_9 (γ : kΓ) (l : Launch) (z : Nat) (z2 : Nat) (z10 : Nat) (z11 : Nat) (z12 : Nat) (z13 : Nat) (z14 : Nat) (z15 : Nat) (z16 : Nat) (z17 : Nat) (z18 : Nat) (z19 : Nat) (z22 : Nat) (z23 : Nat) (z24 : Nat) (z25 : Nat) (z26 : Nat) (z27 : Nat) (z28 : Nat) (z29 : Nat) (z30 : Nat) (z31 : Nat) (z32 : Nat) (z33 : Nat) (z36 : Nat) (z37 : Nat) (z38 : Nat) (z39 : Nat) (z40 : Nat) (z41 : Nat) (z42 : Nat) (z43 : Nat) (z44 : Nat) (z45 : Nat) (z46 : Nat) (z47 : Nat) (z48 : Nat) (z55 : Nat) (z56 : Nat) (z59 : Nat) (z60 : Nat) (z61 : Nat) (fa : Nat → Int32) (ha0 : fa 0 = 0) (ha1 : fa 1 = 0) (ha2 : fa 2 = 10) (ha3 : fa 3 = 10) (ha4 : fa 4 = 3) : kM γ l yX12_count cX12_count 2 ((some .int)) ({ frames := 1, cells := 0, slots := 0, locals := 22 } : Room) [.ref z, .int 9] [(z, .inr (11, [.int 0, .int 0, .ref z2, .int 0, .int 0, .int 0, .int 0, .long 0, .int 0, .int 0, .ref z10, .ref z11, .ref z12, .ref z13, .ref z14, .ref z15, .ref z16, .ref z17, .ref z18, .ref z19, .int 0, .int 0, .ref z22, .ref z23, .ref z24, .ref z25, .ref z26, .ref z27, .ref z28, .ref z29, .ref z30, .ref z31, .ref z32, .ref z33, .int 0, .long 0, .ref z36, .ref z37, .ref z38, .ref z39, .ref z40, .ref z41, .ref z42, .ref z43, .ref z44, .ref z45, .ref z46, .ref z47, .ref z48, .int 0, .int 10, .int 0, .int 0, .int 0, .int 0, .ref z55, .ref z56, .int 0, .int 0, .ref z59, .ref z60, .ref z61, .int 0, .long 0])), (z10, .inl (γ.2.1 0, 10, .inl fa)), (z40, .inl (γ.2.1 0, 5, .inl (fun _ => 0)))] (fun r w1 => r = some (.int 0) ∧ w1 = []) := by
  refine k_ofW (by decide) (Nat.le_of_ble_eq_true rfl) ?_
  intro p e s m below meth c A ls hC hr hlocks hname hw hl
  have hx := hC.1
  have hb := hC.2.1
  have hl : lv_has ls 2 [(0, .ref z), (1, .int 9)] := hl
  refine lv_aload_n hx hb dX12_count_0 rfl (lv_at hl 0 rfl) ?_
  refine lv_iconst (v := 0) hx hb dX12_count_1 (by decide) ?_
  refine fs_RX12_143 hC hw 0 rfl rfl rfl (Nat.le_of_ble_eq_true rfl) dX12_count_2 (fun H locs hw => ?_)
  have hw : kW γ A [(z, .inr (11, [.int 0, .int 0, .ref z2, .int 0, .int 0, .int 0, .int 0, .long 0, .int 0, .int 0, .ref z10, .ref z11, .ref z12, .ref z13, .ref z14, .ref z15, .ref z16, .ref z17, .ref z18, .ref z19, .int 0, .int 0, .ref z22, .ref z23, .ref z24, .ref z25, .ref z26, .ref z27, .ref z28, .ref z29, .ref z30, .ref z31, .ref z32, .ref z33, .int 0, .long 0, .ref z36, .ref z37, .ref z38, .ref z39, .ref z40, .ref z41, .ref z42, .ref z43, .ref z44, .ref z45, .ref z46, .ref z47, .ref z48, .int 0, .int 10, .int 0, .int 0, .int 0, .int 0, .ref z55, .ref z56, .int 0, .int 0, .ref z59, .ref z60, .ref z61, .int 0, .long 0])), (z10, .inl (γ.2.1 0, 10, .inl fa)), (z40, .inl (γ.2.1 0, 5, .inl (fun _ => 0)))] s H locs := hw
  refine lv_iload_n hx hb dX12_count_5 rfl (lv_at hl 1 rfl) ?_
  refine lv_iconst (v := 0) hx hb dX12_count_6 (by decide) ?_
  refine lv_bipush (v := 11) hx hb dX12_count_7 (by decide) ?_
  refine k_S (wr := [(z, .inr (11, [.int 0, .int 0, .ref z2, .int 0, .int 0, .int 0, .int 0, .long 0, .int 0, .int 0, .ref z10, .ref z11, .ref z12, .ref z13, .ref z14, .ref z15, .ref z16, .ref z17, .ref z18, .ref z19, .int 0, .int 0, .ref z22, .ref z23, .ref z24, .ref z25, .ref z26, .ref z27, .ref z28, .ref z29, .ref z30, .ref z31, .ref z32, .ref z33, .int 0, .long 0, .ref z36, .ref z37, .ref z38, .ref z39, .ref z40, .ref z41, .ref z42, .ref z43, .ref z44, .ref z45, .ref z46, .ref z47, .ref z48, .int 0, .int 10, .int 0, .int 0, .int 0, .int 0, .ref z55, .ref z56, .int 0, .int 0, .ref z59, .ref z60, .ref z61, .int 0, .long 0])), (z10, .inl (γ.2.1 0, 10, .inl fa)), (z40, .inl (γ.2.1 0, 5, .inl (fun _ => 0)))]) 3 gw_1472 gw_1473 gw_15 gw_1474 hd_X12_within hC hw (c_within_t γ l 9 0 11 (by decide) (by decide)) ⟨by decide, by decide⟩ ⟨by decide, by decide⟩ hl.1 rfl rfl (Nat.le_of_ble_eq_true rfl) [] [0, 1, 2] rfl rfl rfl rfl (by decide) dX12_count_9 (fun r w1 H locs hq hw => ?_)
  obtain ⟨rfl, rfl⟩ := hq
  have hw : kW γ A [(z, .inr (11, [.int 0, .int 0, .ref z2, .int 0, .int 0, .int 0, .int 0, .long 0, .int 0, .int 0, .ref z10, .ref z11, .ref z12, .ref z13, .ref z14, .ref z15, .ref z16, .ref z17, .ref z18, .ref z19, .int 0, .int 0, .ref z22, .ref z23, .ref z24, .ref z25, .ref z26, .ref z27, .ref z28, .ref z29, .ref z30, .ref z31, .ref z32, .ref z33, .int 0, .long 0, .ref z36, .ref z37, .ref z38, .ref z39, .ref z40, .ref z41, .ref z42, .ref z43, .ref z44, .ref z45, .ref z46, .ref z47, .ref z48, .int 0, .int 10, .int 0, .int 0, .int 0, .int 0, .ref z55, .ref z56, .int 0, .int 0, .ref z59, .ref z60, .ref z61, .int 0, .long 0])), (z10, .inl (γ.2.1 0, 10, .inl fa)), (z40, .inl (γ.2.1 0, 5, .inl (fun _ => 0)))] s H locs := hw
  refine W.eq (g2 := F0 m 12 ls [.int 1]) rfl ?_
  refine lv_if_ne (tgt := 17) hx hb dX12_count_12 (by decide) (fun _ => ?_) (fun h => absurd h (by decide))
  refine lv_iload_n hx hb dX12_count_17 rfl (lv_at hl 1 rfl) ?_
  refine lv_iconst (v := 5) hx hb dX12_count_18 (by decide) ?_
  refine lv_icmp_ge (tgt := 29) hx hb dX12_count_19 (by decide) (fun _ => ?_) (fun h => absurd (by decide) h)
  refine lv_iload_n hx hb dX12_count_29 rfl (lv_at hl 1 rfl) ?_
  refine lv_bipush (v := 8) hx hb dX12_count_30 (by decide) ?_
  refine lv_icmp_ge (tgt := 65) hx hb dX12_count_32 (by decide) (fun _ => ?_) (fun h => absurd (by decide) h)
  refine lv_iload_n hx hb dX12_count_65 rfl (lv_at hl 1 rfl) ?_
  refine lv_bipush (v := 10) hx hb dX12_count_66 (by decide) ?_
  refine lv_icmp_ge (tgt := 93) hx hb dX12_count_68 (by decide) (fun h => absurd h (by decide)) (fun _ => ?_)
  refine lv_iload_n hx hb dX12_count_71 rfl (lv_at hl 1 rfl) ?_
  refine lv_bipush (v := 8) hx hb dX12_count_72 (by decide) ?_
  refine lv_icmp_ne (tgt := 86) hx hb dX12_count_74 (by decide) (fun _ => ?_) (fun h => absurd h (by decide))
  refine lv_aload_n hx hb dX12_count_86 rfl (lv_at hl 0 rfl) ?_
  refine fg_RX12_93 hC hw 0 rfl rfl dX12_count_87 ?_
  refine lv_iconst (v := 0) hx hb dX12_count_90 (by decide) ?_
  refine k_iald hC hw 2 rfl (k_in0 (by decide)) dX12_count_91 ?_
  refine lv_topi (fun x_1284 ex_1284 => ?_)
  obtain rfl : x_1284 = 0 := ex_1284
  exact k_iret hC hr hlocks hw [] rfl rfl ⟨rfl, rfl⟩ (by decide) (by decide) dX12_count_92

set_option maxHeartbeats 4000000 in
set_option maxRecDepth 100000 in
theorem c_X12_count_10 (γ : kΓ) (l : Launch) (z : Nat) (z2 : Nat) (z10 : Nat) (z11 : Nat) (z12 : Nat) (z13 : Nat) (z14 : Nat) (z15 : Nat) (z16 : Nat) (z17 : Nat) (z18 : Nat) (z19 : Nat) (z22 : Nat) (z23 : Nat) (z24 : Nat) (z25 : Nat) (z26 : Nat) (z27 : Nat) (z28 : Nat) (z29 : Nat) (z30 : Nat) (z31 : Nat) (z32 : Nat) (z33 : Nat) (z36 : Nat) (z37 : Nat) (z38 : Nat) (z39 : Nat) (z40 : Nat) (z41 : Nat) (z42 : Nat) (z43 : Nat) (z44 : Nat) (z45 : Nat) (z46 : Nat) (z47 : Nat) (z48 : Nat) (z55 : Nat) (z56 : Nat) (z59 : Nat) (z60 : Nat) (z61 : Nat) (fa : Nat → Int32) (ha0 : fa 0 = 0) (ha1 : fa 1 = 0) (ha2 : fa 2 = 10) (ha3 : fa 3 = 10) (ha4 : fa 4 = 3) : kM γ l yX12_count cX12_count 2 ((some .int)) ({ frames := 1, cells := 0, slots := 0, locals := 22 } : Room) [.ref z, .int 10] [(z, .inr (11, [.int 0, .int 0, .ref z2, .int 0, .int 0, .int 0, .int 0, .long 0, .int 0, .int 0, .ref z10, .ref z11, .ref z12, .ref z13, .ref z14, .ref z15, .ref z16, .ref z17, .ref z18, .ref z19, .int 0, .int 0, .ref z22, .ref z23, .ref z24, .ref z25, .ref z26, .ref z27, .ref z28, .ref z29, .ref z30, .ref z31, .ref z32, .ref z33, .int 0, .long 0, .ref z36, .ref z37, .ref z38, .ref z39, .ref z40, .ref z41, .ref z42, .ref z43, .ref z44, .ref z45, .ref z46, .ref z47, .ref z48, .int 0, .int 10, .int 0, .int 0, .int 0, .int 0, .ref z55, .ref z56, .int 0, .int 0, .ref z59, .ref z60, .ref z61, .int 0, .long 0])), (z10, .inl (γ.2.1 0, 10, .inl fa))] (fun r w1 => r = some (.int 0) ∧ w1 = []) := by
  refine k_ofW (by decide) (Nat.le_of_ble_eq_true rfl) ?_
  intro p e s m below meth c A ls hC hr hlocks hname hw hl
  have hx := hC.1
  have hb := hC.2.1
  have hl : lv_has ls 2 [(0, .ref z), (1, .int 10)] := hl
  refine lv_aload_n hx hb dX12_count_0 rfl (lv_at hl 0 rfl) ?_
  refine lv_iconst (v := 0) hx hb dX12_count_1 (by decide) ?_
  refine fs_RX12_143 hC hw 0 rfl rfl rfl (Nat.le_of_ble_eq_true rfl) dX12_count_2 (fun H locs hw => ?_)
  have hw : kW γ A [(z, .inr (11, [.int 0, .int 0, .ref z2, .int 0, .int 0, .int 0, .int 0, .long 0, .int 0, .int 0, .ref z10, .ref z11, .ref z12, .ref z13, .ref z14, .ref z15, .ref z16, .ref z17, .ref z18, .ref z19, .int 0, .int 0, .ref z22, .ref z23, .ref z24, .ref z25, .ref z26, .ref z27, .ref z28, .ref z29, .ref z30, .ref z31, .ref z32, .ref z33, .int 0, .long 0, .ref z36, .ref z37, .ref z38, .ref z39, .ref z40, .ref z41, .ref z42, .ref z43, .ref z44, .ref z45, .ref z46, .ref z47, .ref z48, .int 0, .int 10, .int 0, .int 0, .int 0, .int 0, .ref z55, .ref z56, .int 0, .int 0, .ref z59, .ref z60, .ref z61, .int 0, .long 0])), (z10, .inl (γ.2.1 0, 10, .inl fa))] s H locs := hw
  refine lv_iload_n hx hb dX12_count_5 rfl (lv_at hl 1 rfl) ?_
  refine lv_iconst (v := 0) hx hb dX12_count_6 (by decide) ?_
  refine lv_bipush (v := 11) hx hb dX12_count_7 (by decide) ?_
  refine k_S (wr := [(z, .inr (11, [.int 0, .int 0, .ref z2, .int 0, .int 0, .int 0, .int 0, .long 0, .int 0, .int 0, .ref z10, .ref z11, .ref z12, .ref z13, .ref z14, .ref z15, .ref z16, .ref z17, .ref z18, .ref z19, .int 0, .int 0, .ref z22, .ref z23, .ref z24, .ref z25, .ref z26, .ref z27, .ref z28, .ref z29, .ref z30, .ref z31, .ref z32, .ref z33, .int 0, .long 0, .ref z36, .ref z37, .ref z38, .ref z39, .ref z40, .ref z41, .ref z42, .ref z43, .ref z44, .ref z45, .ref z46, .ref z47, .ref z48, .int 0, .int 10, .int 0, .int 0, .int 0, .int 0, .ref z55, .ref z56, .int 0, .int 0, .ref z59, .ref z60, .ref z61, .int 0, .long 0])), (z10, .inl (γ.2.1 0, 10, .inl fa))]) 3 gw_1472 gw_1473 gw_15 gw_1474 hd_X12_within hC hw (c_within_t γ l 10 0 11 (by decide) (by decide)) ⟨by decide, by decide⟩ ⟨by decide, by decide⟩ hl.1 rfl rfl (Nat.le_of_ble_eq_true rfl) [] [0, 1] rfl rfl rfl rfl (by decide) dX12_count_9 (fun r w1 H locs hq hw => ?_)
  obtain ⟨rfl, rfl⟩ := hq
  have hw : kW γ A [(z, .inr (11, [.int 0, .int 0, .ref z2, .int 0, .int 0, .int 0, .int 0, .long 0, .int 0, .int 0, .ref z10, .ref z11, .ref z12, .ref z13, .ref z14, .ref z15, .ref z16, .ref z17, .ref z18, .ref z19, .int 0, .int 0, .ref z22, .ref z23, .ref z24, .ref z25, .ref z26, .ref z27, .ref z28, .ref z29, .ref z30, .ref z31, .ref z32, .ref z33, .int 0, .long 0, .ref z36, .ref z37, .ref z38, .ref z39, .ref z40, .ref z41, .ref z42, .ref z43, .ref z44, .ref z45, .ref z46, .ref z47, .ref z48, .int 0, .int 10, .int 0, .int 0, .int 0, .int 0, .ref z55, .ref z56, .int 0, .int 0, .ref z59, .ref z60, .ref z61, .int 0, .long 0])), (z10, .inl (γ.2.1 0, 10, .inl fa))] s H locs := hw
  refine W.eq (g2 := F0 m 12 ls [.int 1]) rfl ?_
  refine lv_if_ne (tgt := 17) hx hb dX12_count_12 (by decide) (fun _ => ?_) (fun h => absurd h (by decide))
  refine lv_iload_n hx hb dX12_count_17 rfl (lv_at hl 1 rfl) ?_
  refine lv_iconst (v := 5) hx hb dX12_count_18 (by decide) ?_
  refine lv_icmp_ge (tgt := 29) hx hb dX12_count_19 (by decide) (fun _ => ?_) (fun h => absurd (by decide) h)
  refine lv_iload_n hx hb dX12_count_29 rfl (lv_at hl 1 rfl) ?_
  refine lv_bipush (v := 8) hx hb dX12_count_30 (by decide) ?_
  refine lv_icmp_ge (tgt := 65) hx hb dX12_count_32 (by decide) (fun _ => ?_) (fun h => absurd (by decide) h)
  refine lv_iload_n hx hb dX12_count_65 rfl (lv_at hl 1 rfl) ?_
  refine lv_bipush (v := 10) hx hb dX12_count_66 (by decide) ?_
  refine lv_icmp_ge (tgt := 93) hx hb dX12_count_68 (by decide) (fun _ => ?_) (fun h => absurd (by decide) h)
  refine lv_iload_n hx hb dX12_count_93 rfl (lv_at hl 1 rfl) ?_
  refine lv_bipush (v := 10) hx hb dX12_count_94 (by decide) ?_
  refine lv_icmp_ne (tgt := 106) hx hb dX12_count_96 (by decide) (fun h => absurd rfl h) (fun _ => ?_)
  refine lv_aload_n hx hb dX12_count_99 rfl (lv_at hl 0 rfl) ?_
  refine fg_RX12_339 hC hw 0 rfl rfl dX12_count_100 ?_
  refine lv_goto (tgt := 110) hx hb dX12_count_103 (by decide) ?_
  exact k_iret hC hr hlocks hw [] rfl rfl ⟨rfl, rfl⟩ (by decide) (by decide) dX12_count_110

set_option maxHeartbeats 4000000 in
set_option maxRecDepth 100000 in
theorem c_X12_count_11 (γ : kΓ) (l : Launch) (z : Nat) (z2 : Nat) (z10 : Nat) (z11 : Nat) (z12 : Nat) (z13 : Nat) (z14 : Nat) (z15 : Nat) (z16 : Nat) (z17 : Nat) (z18 : Nat) (z19 : Nat) (z22 : Nat) (z23 : Nat) (z24 : Nat) (z25 : Nat) (z26 : Nat) (z27 : Nat) (z28 : Nat) (z29 : Nat) (z30 : Nat) (z31 : Nat) (z32 : Nat) (z33 : Nat) (z36 : Nat) (z37 : Nat) (z38 : Nat) (z39 : Nat) (z40 : Nat) (z41 : Nat) (z42 : Nat) (z43 : Nat) (z44 : Nat) (z45 : Nat) (z46 : Nat) (z47 : Nat) (z48 : Nat) (z55 : Nat) (z56 : Nat) (z59 : Nat) (z60 : Nat) (z61 : Nat) (fa : Nat → Int32) (ha0 : fa 0 = 0) (ha1 : fa 1 = 0) (ha2 : fa 2 = 10) (ha3 : fa 3 = 10) (ha4 : fa 4 = 3) : kM γ l yX12_count cX12_count 2 ((some .int)) ({ frames := 1, cells := 0, slots := 0, locals := 22 } : Room) [.ref z, .int 11] [(z, .inr (11, [.int 0, .int 0, .ref z2, .int 0, .int 0, .int 0, .int 0, .long 0, .int 0, .int 0, .ref z10, .ref z11, .ref z12, .ref z13, .ref z14, .ref z15, .ref z16, .ref z17, .ref z18, .ref z19, .int 0, .int 0, .ref z22, .ref z23, .ref z24, .ref z25, .ref z26, .ref z27, .ref z28, .ref z29, .ref z30, .ref z31, .ref z32, .ref z33, .int 0, .long 0, .ref z36, .ref z37, .ref z38, .ref z39, .ref z40, .ref z41, .ref z42, .ref z43, .ref z44, .ref z45, .ref z46, .ref z47, .ref z48, .int 0, .int 10, .int 0, .int 0, .int 0, .int 0, .ref z55, .ref z56, .int 0, .int 0, .ref z59, .ref z60, .ref z61, .int 0, .long 0])), (z10, .inl (γ.2.1 0, 10, .inl fa))] (fun r w1 => r = some (.int 0) ∧ w1 = []) := by
  refine k_ofW (by decide) (Nat.le_of_ble_eq_true rfl) ?_
  intro p e s m below meth c A ls hC hr hlocks hname hw hl
  have hx := hC.1
  have hb := hC.2.1
  have hl : lv_has ls 2 [(0, .ref z), (1, .int 11)] := hl
  refine lv_aload_n hx hb dX12_count_0 rfl (lv_at hl 0 rfl) ?_
  refine lv_iconst (v := 0) hx hb dX12_count_1 (by decide) ?_
  refine fs_RX12_143 hC hw 0 rfl rfl rfl (Nat.le_of_ble_eq_true rfl) dX12_count_2 (fun H locs hw => ?_)
  have hw : kW γ A [(z, .inr (11, [.int 0, .int 0, .ref z2, .int 0, .int 0, .int 0, .int 0, .long 0, .int 0, .int 0, .ref z10, .ref z11, .ref z12, .ref z13, .ref z14, .ref z15, .ref z16, .ref z17, .ref z18, .ref z19, .int 0, .int 0, .ref z22, .ref z23, .ref z24, .ref z25, .ref z26, .ref z27, .ref z28, .ref z29, .ref z30, .ref z31, .ref z32, .ref z33, .int 0, .long 0, .ref z36, .ref z37, .ref z38, .ref z39, .ref z40, .ref z41, .ref z42, .ref z43, .ref z44, .ref z45, .ref z46, .ref z47, .ref z48, .int 0, .int 10, .int 0, .int 0, .int 0, .int 0, .ref z55, .ref z56, .int 0, .int 0, .ref z59, .ref z60, .ref z61, .int 0, .long 0])), (z10, .inl (γ.2.1 0, 10, .inl fa))] s H locs := hw
  refine lv_iload_n hx hb dX12_count_5 rfl (lv_at hl 1 rfl) ?_
  refine lv_iconst (v := 0) hx hb dX12_count_6 (by decide) ?_
  refine lv_bipush (v := 11) hx hb dX12_count_7 (by decide) ?_
  refine k_S (wr := [(z, .inr (11, [.int 0, .int 0, .ref z2, .int 0, .int 0, .int 0, .int 0, .long 0, .int 0, .int 0, .ref z10, .ref z11, .ref z12, .ref z13, .ref z14, .ref z15, .ref z16, .ref z17, .ref z18, .ref z19, .int 0, .int 0, .ref z22, .ref z23, .ref z24, .ref z25, .ref z26, .ref z27, .ref z28, .ref z29, .ref z30, .ref z31, .ref z32, .ref z33, .int 0, .long 0, .ref z36, .ref z37, .ref z38, .ref z39, .ref z40, .ref z41, .ref z42, .ref z43, .ref z44, .ref z45, .ref z46, .ref z47, .ref z48, .int 0, .int 10, .int 0, .int 0, .int 0, .int 0, .ref z55, .ref z56, .int 0, .int 0, .ref z59, .ref z60, .ref z61, .int 0, .long 0])), (z10, .inl (γ.2.1 0, 10, .inl fa))]) 3 gw_1472 gw_1473 gw_15 gw_1474 hd_X12_within hC hw (c_within_t γ l 11 0 11 (by decide) (by decide)) ⟨by decide, by decide⟩ ⟨by decide, by decide⟩ hl.1 rfl rfl (Nat.le_of_ble_eq_true rfl) [] [0, 1] rfl rfl rfl rfl (by decide) dX12_count_9 (fun r w1 H locs hq hw => ?_)
  obtain ⟨rfl, rfl⟩ := hq
  have hw : kW γ A [(z, .inr (11, [.int 0, .int 0, .ref z2, .int 0, .int 0, .int 0, .int 0, .long 0, .int 0, .int 0, .ref z10, .ref z11, .ref z12, .ref z13, .ref z14, .ref z15, .ref z16, .ref z17, .ref z18, .ref z19, .int 0, .int 0, .ref z22, .ref z23, .ref z24, .ref z25, .ref z26, .ref z27, .ref z28, .ref z29, .ref z30, .ref z31, .ref z32, .ref z33, .int 0, .long 0, .ref z36, .ref z37, .ref z38, .ref z39, .ref z40, .ref z41, .ref z42, .ref z43, .ref z44, .ref z45, .ref z46, .ref z47, .ref z48, .int 0, .int 10, .int 0, .int 0, .int 0, .int 0, .ref z55, .ref z56, .int 0, .int 0, .ref z59, .ref z60, .ref z61, .int 0, .long 0])), (z10, .inl (γ.2.1 0, 10, .inl fa))] s H locs := hw
  refine W.eq (g2 := F0 m 12 ls [.int 1]) rfl ?_
  refine lv_if_ne (tgt := 17) hx hb dX12_count_12 (by decide) (fun _ => ?_) (fun h => absurd h (by decide))
  refine lv_iload_n hx hb dX12_count_17 rfl (lv_at hl 1 rfl) ?_
  refine lv_iconst (v := 5) hx hb dX12_count_18 (by decide) ?_
  refine lv_icmp_ge (tgt := 29) hx hb dX12_count_19 (by decide) (fun _ => ?_) (fun h => absurd (by decide) h)
  refine lv_iload_n hx hb dX12_count_29 rfl (lv_at hl 1 rfl) ?_
  refine lv_bipush (v := 8) hx hb dX12_count_30 (by decide) ?_
  refine lv_icmp_ge (tgt := 65) hx hb dX12_count_32 (by decide) (fun _ => ?_) (fun h => absurd (by decide) h)
  refine lv_iload_n hx hb dX12_count_65 rfl (lv_at hl 1 rfl) ?_
  refine lv_bipush (v := 10) hx hb dX12_count_66 (by decide) ?_
  refine lv_icmp_ge (tgt := 93) hx hb dX12_count_68 (by decide) (fun _ => ?_) (fun h => absurd (by decide) h)
  refine lv_iload_n hx hb dX12_count_93 rfl (lv_at hl 1 rfl) ?_
  refine lv_bipush (v := 10) hx hb dX12_count_94 (by decide) ?_
  refine lv_icmp_ne (tgt := 106) hx hb dX12_count_96 (by decide) (fun _ => ?_) (fun h => absurd h (by decide))
  refine lv_aload_n hx hb dX12_count_106 rfl (lv_at hl 0 rfl) ?_
  refine fg_RX12_148 hC hw 0 rfl rfl dX12_count_107 ?_
  exact k_iret hC hr hlocks hw [] rfl rfl ⟨rfl, rfl⟩ (by decide) (by decide) dX12_count_110

set_option maxHeartbeats 4000000 in
set_option maxRecDepth 100000 in
theorem c_X12_count_l (γ : kΓ) (l : Launch) (z : Nat) (z2 : Nat) (z10 : Nat) (z11 : Nat) (z12 : Nat) (z13 : Nat) (z14 : Nat) (z15 : Nat) (z16 : Nat) (z17 : Nat) (z18 : Nat) (z19 : Nat) (z22 : Nat) (z23 : Nat) (z24 : Nat) (z25 : Nat) (z26 : Nat) (z27 : Nat) (z28 : Nat) (z29 : Nat) (z30 : Nat) (z31 : Nat) (z32 : Nat) (z33 : Nat) (z36 : Nat) (z37 : Nat) (z38 : Nat) (z39 : Nat) (z40 : Nat) (z41 : Nat) (z42 : Nat) (z43 : Nat) (z44 : Nat) (z45 : Nat) (z46 : Nat) (z47 : Nat) (z48 : Nat) (z55 : Nat) (z56 : Nat) (z59 : Nat) (z60 : Nat) (z61 : Nat) (t : Int32) (h1 : t < 0) : kM γ l yX12_count cX12_count 2 ((some .int)) ({ frames := 1, cells := 0, slots := 0, locals := 22 } : Room) [.ref z, .int t] [(z, .inr (11, [.int 0, .int 0, .ref z2, .int 0, .int 0, .int 0, .int 0, .long 0, .int 0, .int 0, .ref z10, .ref z11, .ref z12, .ref z13, .ref z14, .ref z15, .ref z16, .ref z17, .ref z18, .ref z19, .int 0, .int 0, .ref z22, .ref z23, .ref z24, .ref z25, .ref z26, .ref z27, .ref z28, .ref z29, .ref z30, .ref z31, .ref z32, .ref z33, .int 0, .long 0, .ref z36, .ref z37, .ref z38, .ref z39, .ref z40, .ref z41, .ref z42, .ref z43, .ref z44, .ref z45, .ref z46, .ref z47, .ref z48, .int 0, .int 10, .int 0, .int 0, .int 0, .int 0, .ref z55, .ref z56, .int 0, .int 0, .ref z59, .ref z60, .ref z61, .int 0, .long 0]))] (fun r w1 => r = some (.int (-1)) ∧ w1 = []) := by
  refine k_ofW (by decide) (Nat.le_of_ble_eq_true rfl) ?_
  intro p e s m below meth c A ls hC hr hlocks hname hw hl
  have hx := hC.1
  have hb := hC.2.1
  have hl : lv_has ls 2 [(0, .ref z), (1, .int t)] := hl
  refine lv_aload_n hx hb dX12_count_0 rfl (lv_at hl 0 rfl) ?_
  refine lv_iconst (v := 0) hx hb dX12_count_1 (by decide) ?_
  refine fs_RX12_143 hC hw 0 rfl rfl rfl (Nat.le_of_ble_eq_true rfl) dX12_count_2 (fun H locs hw => ?_)
  have hw : kW γ A [(z, .inr (11, [.int 0, .int 0, .ref z2, .int 0, .int 0, .int 0, .int 0, .long 0, .int 0, .int 0, .ref z10, .ref z11, .ref z12, .ref z13, .ref z14, .ref z15, .ref z16, .ref z17, .ref z18, .ref z19, .int 0, .int 0, .ref z22, .ref z23, .ref z24, .ref z25, .ref z26, .ref z27, .ref z28, .ref z29, .ref z30, .ref z31, .ref z32, .ref z33, .int 0, .long 0, .ref z36, .ref z37, .ref z38, .ref z39, .ref z40, .ref z41, .ref z42, .ref z43, .ref z44, .ref z45, .ref z46, .ref z47, .ref z48, .int 0, .int 10, .int 0, .int 0, .int 0, .int 0, .ref z55, .ref z56, .int 0, .int 0, .ref z59, .ref z60, .ref z61, .int 0, .long 0]))] s H locs := hw
  refine lv_iload_n hx hb dX12_count_5 rfl (lv_at hl 1 rfl) ?_
  refine lv_iconst (v := 0) hx hb dX12_count_6 (by decide) ?_
  refine lv_bipush (v := 11) hx hb dX12_count_7 (by decide) ?_
  refine k_S (wr := [(z, .inr (11, [.int 0, .int 0, .ref z2, .int 0, .int 0, .int 0, .int 0, .long 0, .int 0, .int 0, .ref z10, .ref z11, .ref z12, .ref z13, .ref z14, .ref z15, .ref z16, .ref z17, .ref z18, .ref z19, .int 0, .int 0, .ref z22, .ref z23, .ref z24, .ref z25, .ref z26, .ref z27, .ref z28, .ref z29, .ref z30, .ref z31, .ref z32, .ref z33, .int 0, .long 0, .ref z36, .ref z37, .ref z38, .ref z39, .ref z40, .ref z41, .ref z42, .ref z43, .ref z44, .ref z45, .ref z46, .ref z47, .ref z48, .int 0, .int 10, .int 0, .int 0, .int 0, .int 0, .ref z55, .ref z56, .int 0, .int 0, .ref z59, .ref z60, .ref z61, .int 0, .long 0]))]) 3 gw_1472 gw_1473 gw_15 gw_1474 hd_X12_within hC hw (c_within_l γ l t 0 11 h1) ⟨by decide, by decide⟩ ⟨by decide, by decide⟩ hl.1 rfl rfl (Nat.le_of_ble_eq_true rfl) [] [0] rfl rfl rfl rfl (by decide) dX12_count_9 (fun r w1 H locs hq hw => ?_)
  obtain ⟨rfl, rfl⟩ := hq
  have hw : kW γ A [(z, .inr (11, [.int 0, .int 0, .ref z2, .int 0, .int 0, .int 0, .int 0, .long 0, .int 0, .int 0, .ref z10, .ref z11, .ref z12, .ref z13, .ref z14, .ref z15, .ref z16, .ref z17, .ref z18, .ref z19, .int 0, .int 0, .ref z22, .ref z23, .ref z24, .ref z25, .ref z26, .ref z27, .ref z28, .ref z29, .ref z30, .ref z31, .ref z32, .ref z33, .int 0, .long 0, .ref z36, .ref z37, .ref z38, .ref z39, .ref z40, .ref z41, .ref z42, .ref z43, .ref z44, .ref z45, .ref z46, .ref z47, .ref z48, .int 0, .int 10, .int 0, .int 0, .int 0, .int 0, .ref z55, .ref z56, .int 0, .int 0, .ref z59, .ref z60, .ref z61, .int 0, .long 0]))] s H locs := hw
  refine W.eq (g2 := F0 m 12 ls [.int 0]) rfl ?_
  refine lv_if_ne (tgt := 17) hx hb dX12_count_12 (by decide) (fun h => absurd rfl h) (fun _ => ?_)
  refine lv_iconst (v := (-1)) hx hb dX12_count_15 (by decide) ?_
  exact k_iret hC hr hlocks hw [] rfl rfl ⟨rfl, rfl⟩ (by decide) (by decide) dX12_count_16

set_option maxHeartbeats 4000000 in
set_option maxRecDepth 100000 in
theorem c_X12_count_h (γ : kΓ) (l : Launch) (z : Nat) (z2 : Nat) (z10 : Nat) (z11 : Nat) (z12 : Nat) (z13 : Nat) (z14 : Nat) (z15 : Nat) (z16 : Nat) (z17 : Nat) (z18 : Nat) (z19 : Nat) (z22 : Nat) (z23 : Nat) (z24 : Nat) (z25 : Nat) (z26 : Nat) (z27 : Nat) (z28 : Nat) (z29 : Nat) (z30 : Nat) (z31 : Nat) (z32 : Nat) (z33 : Nat) (z36 : Nat) (z37 : Nat) (z38 : Nat) (z39 : Nat) (z40 : Nat) (z41 : Nat) (z42 : Nat) (z43 : Nat) (z44 : Nat) (z45 : Nat) (z46 : Nat) (z47 : Nat) (z48 : Nat) (z55 : Nat) (z56 : Nat) (z59 : Nat) (z60 : Nat) (z61 : Nat) (t : Int32) (h1 : ¬ t < 0) (h2 : 11 < t) : kM γ l yX12_count cX12_count 2 ((some .int)) ({ frames := 1, cells := 0, slots := 0, locals := 22 } : Room) [.ref z, .int t] [(z, .inr (11, [.int 0, .int 0, .ref z2, .int 0, .int 0, .int 0, .int 0, .long 0, .int 0, .int 0, .ref z10, .ref z11, .ref z12, .ref z13, .ref z14, .ref z15, .ref z16, .ref z17, .ref z18, .ref z19, .int 0, .int 0, .ref z22, .ref z23, .ref z24, .ref z25, .ref z26, .ref z27, .ref z28, .ref z29, .ref z30, .ref z31, .ref z32, .ref z33, .int 0, .long 0, .ref z36, .ref z37, .ref z38, .ref z39, .ref z40, .ref z41, .ref z42, .ref z43, .ref z44, .ref z45, .ref z46, .ref z47, .ref z48, .int 0, .int 10, .int 0, .int 0, .int 0, .int 0, .ref z55, .ref z56, .int 0, .int 0, .ref z59, .ref z60, .ref z61, .int 0, .long 0]))] (fun r w1 => r = some (.int (-1)) ∧ w1 = []) := by
  refine k_ofW (by decide) (Nat.le_of_ble_eq_true rfl) ?_
  intro p e s m below meth c A ls hC hr hlocks hname hw hl
  have hx := hC.1
  have hb := hC.2.1
  have hl : lv_has ls 2 [(0, .ref z), (1, .int t)] := hl
  refine lv_aload_n hx hb dX12_count_0 rfl (lv_at hl 0 rfl) ?_
  refine lv_iconst (v := 0) hx hb dX12_count_1 (by decide) ?_
  refine fs_RX12_143 hC hw 0 rfl rfl rfl (Nat.le_of_ble_eq_true rfl) dX12_count_2 (fun H locs hw => ?_)
  have hw : kW γ A [(z, .inr (11, [.int 0, .int 0, .ref z2, .int 0, .int 0, .int 0, .int 0, .long 0, .int 0, .int 0, .ref z10, .ref z11, .ref z12, .ref z13, .ref z14, .ref z15, .ref z16, .ref z17, .ref z18, .ref z19, .int 0, .int 0, .ref z22, .ref z23, .ref z24, .ref z25, .ref z26, .ref z27, .ref z28, .ref z29, .ref z30, .ref z31, .ref z32, .ref z33, .int 0, .long 0, .ref z36, .ref z37, .ref z38, .ref z39, .ref z40, .ref z41, .ref z42, .ref z43, .ref z44, .ref z45, .ref z46, .ref z47, .ref z48, .int 0, .int 10, .int 0, .int 0, .int 0, .int 0, .ref z55, .ref z56, .int 0, .int 0, .ref z59, .ref z60, .ref z61, .int 0, .long 0]))] s H locs := hw
  refine lv_iload_n hx hb dX12_count_5 rfl (lv_at hl 1 rfl) ?_
  refine lv_iconst (v := 0) hx hb dX12_count_6 (by decide) ?_
  refine lv_bipush (v := 11) hx hb dX12_count_7 (by decide) ?_
  refine k_S (wr := [(z, .inr (11, [.int 0, .int 0, .ref z2, .int 0, .int 0, .int 0, .int 0, .long 0, .int 0, .int 0, .ref z10, .ref z11, .ref z12, .ref z13, .ref z14, .ref z15, .ref z16, .ref z17, .ref z18, .ref z19, .int 0, .int 0, .ref z22, .ref z23, .ref z24, .ref z25, .ref z26, .ref z27, .ref z28, .ref z29, .ref z30, .ref z31, .ref z32, .ref z33, .int 0, .long 0, .ref z36, .ref z37, .ref z38, .ref z39, .ref z40, .ref z41, .ref z42, .ref z43, .ref z44, .ref z45, .ref z46, .ref z47, .ref z48, .int 0, .int 10, .int 0, .int 0, .int 0, .int 0, .ref z55, .ref z56, .int 0, .int 0, .ref z59, .ref z60, .ref z61, .int 0, .long 0]))]) 3 gw_1472 gw_1473 gw_15 gw_1474 hd_X12_within hC hw (c_within_h γ l t 0 11 h1 h2) ⟨by decide, by decide⟩ ⟨by decide, by decide⟩ hl.1 rfl rfl (Nat.le_of_ble_eq_true rfl) [] [0] rfl rfl rfl rfl (by decide) dX12_count_9 (fun r w1 H locs hq hw => ?_)
  obtain ⟨rfl, rfl⟩ := hq
  have hw : kW γ A [(z, .inr (11, [.int 0, .int 0, .ref z2, .int 0, .int 0, .int 0, .int 0, .long 0, .int 0, .int 0, .ref z10, .ref z11, .ref z12, .ref z13, .ref z14, .ref z15, .ref z16, .ref z17, .ref z18, .ref z19, .int 0, .int 0, .ref z22, .ref z23, .ref z24, .ref z25, .ref z26, .ref z27, .ref z28, .ref z29, .ref z30, .ref z31, .ref z32, .ref z33, .int 0, .long 0, .ref z36, .ref z37, .ref z38, .ref z39, .ref z40, .ref z41, .ref z42, .ref z43, .ref z44, .ref z45, .ref z46, .ref z47, .ref z48, .int 0, .int 10, .int 0, .int 0, .int 0, .int 0, .ref z55, .ref z56, .int 0, .int 0, .ref z59, .ref z60, .ref z61, .int 0, .long 0]))] s H locs := hw
  refine W.eq (g2 := F0 m 12 ls [.int 0]) rfl ?_
  refine lv_if_ne (tgt := 17) hx hb dX12_count_12 (by decide) (fun h => absurd rfl h) (fun _ => ?_)
  refine lv_iconst (v := (-1)) hx hb dX12_count_15 (by decide) ?_
  exact k_iret hC hr hlocks hw [] rfl rfl ⟨rfl, rfl⟩ (by decide) (by decide) dX12_count_16


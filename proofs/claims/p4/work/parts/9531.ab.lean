theorem dX0_thoughtNamed_0 : decode cX0_thoughtNamed 0 = .ok (.lload_n 1, 1) := by decide +kernel
theorem dX0_thoughtNamed_1 : decode cX0_thoughtNamed 1 = .ok (.aload_n 0, 1) := by decide +kernel
theorem dX0_thoughtNamed_2 : decode cX0_thoughtNamed 2 = .ok (.getfield 9, 3) := by decide +kernel
theorem dX0_thoughtNamed_5 : decode cX0_thoughtNamed 5 = .ok (.aload_n 0, 1) := by decide +kernel
theorem dX0_thoughtNamed_6 : decode cX0_thoughtNamed 6 = .ok (.getfield 40, 3) := by decide +kernel
theorem dX0_thoughtNamed_9 : decode cX0_thoughtNamed 9 = .ok (.invokestatic 66, 3) := by decide +kernel
theorem dX0_thoughtNamed_12 : decode cX0_thoughtNamed 12 = .ok (.ireturn, 1) := by decide +kernel
theorem dX0_tenantNamed_0 : decode cX0_tenantNamed 0 = .ok (.lload_n 1, 1) := by decide +kernel
theorem dX0_tenantNamed_1 : decode cX0_tenantNamed 1 = .ok (.aload_n 0, 1) := by decide +kernel
theorem dX0_tenantNamed_2 : decode cX0_tenantNamed 2 = .ok (.getfield 25, 3) := by decide +kernel
theorem dX0_tenantNamed_5 : decode cX0_tenantNamed 5 = .ok (.aload_n 0, 1) := by decide +kernel
theorem dX0_tenantNamed_6 : decode cX0_tenantNamed 6 = .ok (.getfield 44, 3) := by decide +kernel
theorem dX0_tenantNamed_9 : decode cX0_tenantNamed 9 = .ok (.invokestatic 66, 3) := by decide +kernel
theorem dX0_tenantNamed_12 : decode cX0_tenantNamed 12 = .ok (.ireturn, 1) := by decide +kernel
theorem dX0_addThought_0 : decode cX0_addThought 0 = .ok (.aload_n 0, 1) := by decide +kernel
theorem dX0_addThought_1 : decode cX0_addThought 1 = .ok (.getfield 40, 3) := by decide +kernel
theorem dX0_addThought_4 : decode cX0_addThought 4 = .ok (.bipush 8, 2) := by decide +kernel
theorem dX0_addThought_6 : decode cX0_addThought 6 = .ok (.if_icmp .ge 54, 3) := by decide +kernel
theorem dX0_addThought_9 : decode cX0_addThought 9 = .ok (.aload_n 0, 1) := by decide +kernel
theorem dX0_addThought_10 : decode cX0_addThought 10 = .ok (.getfield 9, 3) := by decide +kernel
theorem dX0_addThought_13 : decode cX0_addThought 13 = .ok (.aload_n 0, 1) := by decide +kernel
theorem dX0_addThought_14 : decode cX0_addThought 14 = .ok (.getfield 40, 3) := by decide +kernel
theorem dX0_addThought_17 : decode cX0_addThought 17 = .ok (.lload_n 1, 1) := by decide +kernel
theorem dX0_addThought_18 : decode cX0_addThought 18 = .ok (.lastore, 1) := by decide +kernel
theorem dX0_addThought_19 : decode cX0_addThought 19 = .ok (.aload_n 0, 1) := by decide +kernel
theorem dX0_addThought_20 : decode cX0_addThought 20 = .ok (.getfield 15, 3) := by decide +kernel
theorem dX0_addThought_23 : decode cX0_addThought 23 = .ok (.aload_n 0, 1) := by decide +kernel
theorem dX0_addThought_24 : decode cX0_addThought 24 = .ok (.getfield 40, 3) := by decide +kernel
theorem dX0_addThought_27 : decode cX0_addThought 27 = .ok (.iload_n 3, 1) := by decide +kernel
theorem dX0_addThought_28 : decode cX0_addThought 28 = .ok (.iastore, 1) := by decide +kernel
theorem dX0_addThought_29 : decode cX0_addThought 29 = .ok (.aload_n 0, 1) := by decide +kernel
theorem dX0_addThought_30 : decode cX0_addThought 30 = .ok (.getfield 19, 3) := by decide +kernel
theorem dX0_addThought_33 : decode cX0_addThought 33 = .ok (.aload_n 0, 1) := by decide +kernel
theorem dX0_addThought_34 : decode cX0_addThought 34 = .ok (.getfield 40, 3) := by decide +kernel
theorem dX0_addThought_37 : decode cX0_addThought 37 = .ok (.iload 4, 2) := by decide +kernel
theorem dX0_addThought_39 : decode cX0_addThought 39 = .ok (.iastore, 1) := by decide +kernel
theorem dX0_addThought_40 : decode cX0_addThought 40 = .ok (.aload_n 0, 1) := by decide +kernel
theorem dX0_addThought_41 : decode cX0_addThought 41 = .ok (.getfield 22, 3) := by decide +kernel
theorem dX0_addThought_44 : decode cX0_addThought 44 = .ok (.aload_n 0, 1) := by decide +kernel
theorem dX0_addThought_45 : decode cX0_addThought 45 = .ok (.getfield 40, 3) := by decide +kernel
theorem dX0_addThought_48 : decode cX0_addThought 48 = .ok (.iconst 0, 1) := by decide +kernel
theorem dX0_addThought_49 : decode cX0_addThought 49 = .ok (.iastore, 1) := by decide +kernel
theorem dX0_addThought_50 : decode cX0_addThought 50 = .ok (.aload_n 0, 1) := by decide +kernel
theorem dX0_addThought_51 : decode cX0_addThought 51 = .ok (.dup, 1) := by decide +kernel
theorem dX0_addThought_52 : decode cX0_addThought 52 = .ok (.getfield 40, 3) := by decide +kernel
theorem dX0_addThought_55 : decode cX0_addThought 55 = .ok (.iconst 1, 1) := by decide +kernel
theorem dX0_addThought_56 : decode cX0_addThought 56 = .ok (.iadd, 1) := by decide +kernel
theorem dX0_addThought_57 : decode cX0_addThought 57 = .ok (.putfield 40, 3) := by decide +kernel
theorem dX0_addThought_60 : decode cX0_addThought 60 = .ok (.return_, 1) := by decide +kernel
theorem dX0_addTenant_0 : decode cX0_addTenant 0 = .ok (.aload_n 0, 1) := by decide +kernel
theorem dX0_addTenant_1 : decode cX0_addTenant 1 = .ok (.getfield 44, 3) := by decide +kernel
theorem dX0_addTenant_4 : decode cX0_addTenant 4 = .ok (.iconst 5, 1) := by decide +kernel
theorem dX0_addTenant_5 : decode cX0_addTenant 5 = .ok (.if_icmp .ge 33, 3) := by decide +kernel
theorem dX0_addTenant_8 : decode cX0_addTenant 8 = .ok (.aload_n 0, 1) := by decide +kernel
theorem dX0_addTenant_9 : decode cX0_addTenant 9 = .ok (.getfield 25, 3) := by decide +kernel
theorem dX0_addTenant_12 : decode cX0_addTenant 12 = .ok (.aload_n 0, 1) := by decide +kernel
theorem dX0_addTenant_13 : decode cX0_addTenant 13 = .ok (.getfield 44, 3) := by decide +kernel
theorem dX0_addTenant_16 : decode cX0_addTenant 16 = .ok (.lload_n 1, 1) := by decide +kernel
theorem dX0_addTenant_17 : decode cX0_addTenant 17 = .ok (.lastore, 1) := by decide +kernel
theorem dX0_addTenant_18 : decode cX0_addTenant 18 = .ok (.aload_n 0, 1) := by decide +kernel
theorem dX0_addTenant_19 : decode cX0_addTenant 19 = .ok (.getfield 28, 3) := by decide +kernel
theorem dX0_addTenant_22 : decode cX0_addTenant 22 = .ok (.aload_n 0, 1) := by decide +kernel
theorem dX0_addTenant_23 : decode cX0_addTenant 23 = .ok (.getfield 44, 3) := by decide +kernel
theorem dX0_addTenant_26 : decode cX0_addTenant 26 = .ok (.iload_n 3, 1) := by decide +kernel
theorem dX0_addTenant_27 : decode cX0_addTenant 27 = .ok (.iastore, 1) := by decide +kernel
theorem dX0_addTenant_28 : decode cX0_addTenant 28 = .ok (.aload_n 0, 1) := by decide +kernel
theorem dX0_addTenant_29 : decode cX0_addTenant 29 = .ok (.dup, 1) := by decide +kernel
theorem dX0_addTenant_30 : decode cX0_addTenant 30 = .ok (.getfield 44, 3) := by decide +kernel
theorem dX0_addTenant_33 : decode cX0_addTenant 33 = .ok (.iconst 1, 1) := by decide +kernel
theorem dX0_addTenant_34 : decode cX0_addTenant 34 = .ok (.iadd, 1) := by decide +kernel
theorem dX0_addTenant_35 : decode cX0_addTenant 35 = .ok (.putfield 44, 3) := by decide +kernel
theorem dX0_addTenant_38 : decode cX0_addTenant 38 = .ok (.return_, 1) := by decide +kernel
theorem dX5_newName_0 : decode cX5_newName 0 = .ok (.aload_n 0, 1) := by decide +kernel
theorem dX5_newName_1 : decode cX5_newName 1 = .ok (.getfield 15, 3) := by decide +kernel
theorem dX5_newName_4 : decode cX5_newName 4 = .ok (.getfield 254, 3) := by decide +kernel
theorem dX5_newName_7 : decode cX5_newName 7 = .ok (.lstore_n 1, 1) := by decide +kernel
theorem dX5_newName_8 : decode cX5_newName 8 = .ok (.aload_n 0, 1) := by decide +kernel
theorem dX5_newName_9 : decode cX5_newName 9 = .ok (.getfield 15, 3) := by decide +kernel
theorem dX5_newName_12 : decode cX5_newName 12 = .ok (.getfield 36, 3) := by decide +kernel
theorem dX5_newName_15 : decode cX5_newName 15 = .ok (.getfield 258, 3) := by decide +kernel
theorem dX5_newName_18 : decode cX5_newName 18 = .ok (.ifCond .ne 11, 3) := by decide +kernel
theorem dX5_newName_21 : decode cX5_newName 21 = .ok (.aload_n 0, 1) := by decide +kernel
theorem dX5_newName_22 : decode cX5_newName 22 = .ok (.iconst 1, 1) := by decide +kernel
theorem dX5_newName_23 : decode cX5_newName 23 = .ok (.invokevirtual 84, 3) := by decide +kernel
theorem dX5_newName_26 : decode cX5_newName 26 = .ok (.goto 32, 3) := by decide +kernel
theorem dX5_newName_29 : decode cX5_newName 29 = .ok (.aload_n 0, 1) := by decide +kernel
theorem dX5_newName_30 : decode cX5_newName 30 = .ok (.getfield 19, 3) := by decide +kernel
theorem dX5_newName_33 : decode cX5_newName 33 = .ok (.lload_n 1, 1) := by decide +kernel
theorem dX5_newName_34 : decode cX5_newName 34 = .ok (.invokevirtual 262, 3) := by decide +kernel
theorem dX5_newName_37 : decode cX5_newName 37 = .ok (.iconst (-1), 1) := by decide +kernel
theorem dX5_newName_38 : decode cX5_newName 38 = .ok (.if_icmp .ne 15, 3) := by decide +kernel
theorem dX5_newName_41 : decode cX5_newName 41 = .ok (.aload_n 0, 1) := by decide +kernel
theorem dX5_newName_42 : decode cX5_newName 42 = .ok (.getfield 19, 3) := by decide +kernel
theorem dX5_newName_45 : decode cX5_newName 45 = .ok (.lload_n 1, 1) := by decide +kernel
theorem dX5_newName_46 : decode cX5_newName 46 = .ok (.invokevirtual 266, 3) := by decide +kernel
theorem dX5_newName_49 : decode cX5_newName 49 = .ok (.iconst (-1), 1) := by decide +kernel
theorem dX5_newName_50 : decode cX5_newName 50 = .ok (.if_icmp .eq 8, 3) := by decide +kernel
theorem dX5_newName_53 : decode cX5_newName 53 = .ok (.aload_n 0, 1) := by decide +kernel
theorem dX5_newName_54 : decode cX5_newName 54 = .ok (.iconst 3, 1) := by decide +kernel
theorem dX5_newName_55 : decode cX5_newName 55 = .ok (.invokevirtual 84, 3) := by decide +kernel
theorem dX5_newName_58 : decode cX5_newName 58 = .ok (.aload_n 0, 1) := by decide +kernel
theorem dX5_newName_59 : decode cX5_newName 59 = .ok (.invokevirtual 156, 3) := by decide +kernel
theorem dX5_newName_62 : decode cX5_newName 62 = .ok (.lload_n 1, 1) := by decide +kernel
theorem dX5_newName_63 : decode cX5_newName 63 = .ok (.lreturn, 1) := by decide +kernel
theorem dX5_thoughtHere_0 : decode cX5_thoughtHere 0 = .ok (.aload_n 0, 1) := by decide +kernel
theorem dX5_thoughtHere_1 : decode cX5_thoughtHere 1 = .ok (.aload_n 0, 1) := by decide +kernel
theorem dX5_thoughtHere_2 : decode cX5_thoughtHere 2 = .ok (.getfield 19, 3) := by decide +kernel
theorem dX5_thoughtHere_5 : decode cX5_thoughtHere 5 = .ok (.aload_n 0, 1) := by decide +kernel
theorem dX5_thoughtHere_6 : decode cX5_thoughtHere 6 = .ok (.getfield 15, 3) := by decide +kernel
theorem dX5_thoughtHere_9 : decode cX5_thoughtHere 9 = .ok (.getfield 254, 3) := by decide +kernel
theorem dX5_thoughtHere_12 : decode cX5_thoughtHere 12 = .ok (.invokevirtual 262, 3) := by decide +kernel
theorem dX5_thoughtHere_15 : decode cX5_thoughtHere 15 = .ok (.invokevirtual 269, 3) := by decide +kernel
theorem dX5_thoughtHere_18 : decode cX5_thoughtHere 18 = .ok (.ireturn, 1) := by decide +kernel
theorem dX5_tenantHere_0 : decode cX5_tenantHere 0 = .ok (.aload_n 0, 1) := by decide +kernel
theorem dX5_tenantHere_1 : decode cX5_tenantHere 1 = .ok (.aload_n 0, 1) := by decide +kernel
theorem dX5_tenantHere_2 : decode cX5_tenantHere 2 = .ok (.getfield 19, 3) := by decide +kernel
theorem dX5_tenantHere_5 : decode cX5_tenantHere 5 = .ok (.aload_n 0, 1) := by decide +kernel
theorem dX5_tenantHere_6 : decode cX5_tenantHere 6 = .ok (.getfield 15, 3) := by decide +kernel
theorem dX5_tenantHere_9 : decode cX5_tenantHere 9 = .ok (.getfield 254, 3) := by decide +kernel
theorem dX5_tenantHere_12 : decode cX5_tenantHere 12 = .ok (.invokevirtual 266, 3) := by decide +kernel
theorem dX5_tenantHere_15 : decode cX5_tenantHere 15 = .ok (.invokevirtual 269, 3) := by decide +kernel
theorem dX5_tenantHere_18 : decode cX5_tenantHere 18 = .ok (.ireturn, 1) := by decide +kernel
theorem dX5_readThought_0 : decode cX5_readThought 0 = .ok (.aload_n 0, 1) := by decide +kernel
theorem dX5_readThought_1 : decode cX5_readThought 1 = .ok (.getfield 19, 3) := by decide +kernel
theorem dX5_readThought_4 : decode cX5_readThought 4 = .ok (.getfield 122, 3) := by decide +kernel
theorem dX5_readThought_7 : decode cX5_readThought 7 = .ok (.bipush 8, 2) := by decide +kernel
theorem dX5_readThought_9 : decode cX5_readThought 9 = .ok (.if_icmp .lt 9, 3) := by decide +kernel
theorem dX5_readThought_12 : decode cX5_readThought 12 = .ok (.aload_n 0, 1) := by decide +kernel
theorem dX5_readThought_13 : decode cX5_readThought 13 = .ok (.iconst 5, 1) := by decide +kernel
theorem dX5_readThought_14 : decode cX5_readThought 14 = .ok (.invokevirtual 84, 3) := by decide +kernel
theorem dX5_readThought_17 : decode cX5_readThought 17 = .ok (.return_, 1) := by decide +kernel
theorem dX5_readThought_18 : decode cX5_readThought 18 = .ok (.aload_n 0, 1) := by decide +kernel
theorem dX5_readThought_19 : decode cX5_readThought 19 = .ok (.getfield 15, 3) := by decide +kernel
theorem dX5_readThought_22 : decode cX5_readThought 22 = .ok (.invokevirtual 125, 3) := by decide +kernel
theorem dX5_readThought_25 : decode cX5_readThought 25 = .ok (.aload_n 0, 1) := by decide +kernel
theorem dX5_readThought_26 : decode cX5_readThought 26 = .ok (.invokevirtual 128, 3) := by decide +kernel
theorem dX5_readThought_29 : decode cX5_readThought 29 = .ok (.lstore_n 1, 1) := by decide +kernel
theorem dX5_readThought_30 : decode cX5_readThought 30 = .ok (.aload_n 0, 1) := by decide +kernel
theorem dX5_readThought_31 : decode cX5_readThought 31 = .ok (.getstatic 132, 3) := by decide +kernel
theorem dX5_readThought_34 : decode cX5_readThought 34 = .ok (.invokevirtual 135, 3) := by decide +kernel
theorem dX5_readThought_37 : decode cX5_readThought 37 = .ok (.aload_n 0, 1) := by decide +kernel
theorem dX5_readThought_38 : decode cX5_readThought 38 = .ok (.iconst 0, 1) := by decide +kernel
theorem dX5_readThought_39 : decode cX5_readThought 39 = .ok (.bipush 20, 2) := by decide +kernel
theorem dX5_readThought_41 : decode cX5_readThought 41 = .ok (.invokevirtual 138, 3) := by decide +kernel
theorem dX5_readThought_44 : decode cX5_readThought 44 = .ok (.istore_n 3, 1) := by decide +kernel
theorem dX5_readThought_45 : decode cX5_readThought 45 = .ok (.aload_n 0, 1) := by decide +kernel
theorem dX5_readThought_46 : decode cX5_readThought 46 = .ok (.getstatic 142, 3) := by decide +kernel
theorem dX5_readThought_49 : decode cX5_readThought 49 = .ok (.invokevirtual 135, 3) := by decide +kernel
theorem dX5_readThought_52 : decode cX5_readThought 52 = .ok (.aload_n 0, 1) := by decide +kernel
theorem dX5_readThought_53 : decode cX5_readThought 53 = .ok (.iconst 0, 1) := by decide +kernel
theorem dX5_readThought_54 : decode cX5_readThought 54 = .ok (.bipush 6, 2) := by decide +kernel
theorem dX5_readThought_56 : decode cX5_readThought 56 = .ok (.invokevirtual 138, 3) := by decide +kernel
theorem dX5_readThought_59 : decode cX5_readThought 59 = .ok (.istore 4, 2) := by decide +kernel
theorem dX5_readThought_61 : decode cX5_readThought 61 = .ok (.aload_n 0, 1) := by decide +kernel
theorem dX5_readThought_62 : decode cX5_readThought 62 = .ok (.bipush 59, 2) := by decide +kernel
theorem dX5_readThought_64 : decode cX5_readThought 64 = .ok (.invokevirtual 145, 3) := by decide +kernel
theorem dX5_readThought_67 : decode cX5_readThought 67 = .ok (.aload_n 0, 1) := by decide +kernel
theorem dX5_readThought_68 : decode cX5_readThought 68 = .ok (.getfield 91, 3) := by decide +kernel
theorem dX5_readThought_71 : decode cX5_readThought 71 = .ok (.ifCond .ne 14, 3) := by decide +kernel
theorem dX5_readThought_74 : decode cX5_readThought 74 = .ok (.aload_n 0, 1) := by decide +kernel
theorem dX5_readThought_75 : decode cX5_readThought 75 = .ok (.getfield 19, 3) := by decide +kernel
theorem dX5_readThought_78 : decode cX5_readThought 78 = .ok (.lload_n 1, 1) := by decide +kernel
theorem dX5_readThought_79 : decode cX5_readThought 79 = .ok (.iload_n 3, 1) := by decide +kernel
theorem dX5_readThought_80 : decode cX5_readThought 80 = .ok (.iload 4, 2) := by decide +kernel
theorem dX5_readThought_82 : decode cX5_readThought 82 = .ok (.invokevirtual 148, 3) := by decide +kernel
theorem dX5_readThought_85 : decode cX5_readThought 85 = .ok (.return_, 1) := by decide +kernel
theorem dX5_readTenant_0 : decode cX5_readTenant 0 = .ok (.aload_n 0, 1) := by decide +kernel
theorem dX5_readTenant_1 : decode cX5_readTenant 1 = .ok (.getfield 19, 3) := by decide +kernel
theorem dX5_readTenant_4 : decode cX5_readTenant 4 = .ok (.getfield 167, 3) := by decide +kernel
theorem dX5_readTenant_7 : decode cX5_readTenant 7 = .ok (.iconst 5, 1) := by decide +kernel
theorem dX5_readTenant_8 : decode cX5_readTenant 8 = .ok (.if_icmp .lt 9, 3) := by decide +kernel
theorem dX5_readTenant_11 : decode cX5_readTenant 11 = .ok (.aload_n 0, 1) := by decide +kernel
theorem dX5_readTenant_12 : decode cX5_readTenant 12 = .ok (.iconst 5, 1) := by decide +kernel
theorem dX5_readTenant_13 : decode cX5_readTenant 13 = .ok (.invokevirtual 84, 3) := by decide +kernel
theorem dX5_readTenant_16 : decode cX5_readTenant 16 = .ok (.return_, 1) := by decide +kernel
theorem dX5_readTenant_17 : decode cX5_readTenant 17 = .ok (.aload_n 0, 1) := by decide +kernel
theorem dX5_readTenant_18 : decode cX5_readTenant 18 = .ok (.getfield 15, 3) := by decide +kernel
theorem dX5_readTenant_21 : decode cX5_readTenant 21 = .ok (.invokevirtual 125, 3) := by decide +kernel
theorem dX5_readTenant_24 : decode cX5_readTenant 24 = .ok (.aload_n 0, 1) := by decide +kernel
theorem dX5_readTenant_25 : decode cX5_readTenant 25 = .ok (.invokevirtual 128, 3) := by decide +kernel
theorem dX5_readTenant_28 : decode cX5_readTenant 28 = .ok (.lstore_n 1, 1) := by decide +kernel
theorem dX5_readTenant_29 : decode cX5_readTenant 29 = .ok (.aload_n 0, 1) := by decide +kernel
theorem dX5_readTenant_30 : decode cX5_readTenant 30 = .ok (.getfield 15, 3) := by decide +kernel
theorem dX5_readTenant_33 : decode cX5_readTenant 33 = .ok (.getfield 36, 3) := by decide +kernel
theorem dX5_readTenant_36 : decode cX5_readTenant 36 = .ok (.astore_n 3, 1) := by decide +kernel
theorem dX5_readTenant_37 : decode cX5_readTenant 37 = .ok (.aload_n 3, 1) := by decide +kernel
theorem dX5_readTenant_38 : decode cX5_readTenant 38 = .ok (.invokevirtual 170, 3) := by decide +kernel
theorem dX5_readTenant_41 : decode cX5_readTenant 41 = .ok (.ifCond .ne 8, 3) := by decide +kernel
theorem dX5_readTenant_44 : decode cX5_readTenant 44 = .ok (.aload_n 0, 1) := by decide +kernel
theorem dX5_readTenant_45 : decode cX5_readTenant 45 = .ok (.iconst 1, 1) := by decide +kernel
theorem dX5_readTenant_46 : decode cX5_readTenant 46 = .ok (.invokevirtual 84, 3) := by decide +kernel
theorem dX5_readTenant_49 : decode cX5_readTenant 49 = .ok (.aload_n 0, 1) := by decide +kernel
theorem dX5_readTenant_50 : decode cX5_readTenant 50 = .ok (.invokevirtual 156, 3) := by decide +kernel
theorem dX5_readTenant_53 : decode cX5_readTenant 53 = .ok (.aload_n 0, 1) := by decide +kernel
theorem dX5_readTenant_54 : decode cX5_readTenant 54 = .ok (.bipush 59, 2) := by decide +kernel
theorem dX5_readTenant_56 : decode cX5_readTenant 56 = .ok (.invokevirtual 145, 3) := by decide +kernel
theorem dX5_readTenant_59 : decode cX5_readTenant 59 = .ok (.aload_n 0, 1) := by decide +kernel
theorem dX5_readTenant_60 : decode cX5_readTenant 60 = .ok (.getfield 91, 3) := by decide +kernel
theorem dX5_readTenant_63 : decode cX5_readTenant 63 = .ok (.ifCond .ne 15, 3) := by decide +kernel
theorem dX5_readTenant_66 : decode cX5_readTenant 66 = .ok (.aload_n 0, 1) := by decide +kernel
theorem dX5_readTenant_67 : decode cX5_readTenant 67 = .ok (.getfield 19, 3) := by decide +kernel
theorem dX5_readTenant_70 : decode cX5_readTenant 70 = .ok (.lload_n 1, 1) := by decide +kernel
theorem dX5_readTenant_71 : decode cX5_readTenant 71 = .ok (.aload_n 3, 1) := by decide +kernel
theorem dX5_readTenant_72 : decode cX5_readTenant 72 = .ok (.getfield 173, 3) := by decide +kernel
theorem dX5_readTenant_75 : decode cX5_readTenant 75 = .ok (.invokevirtual 176, 3) := by decide +kernel
theorem dX5_readTenant_78 : decode cX5_readTenant 78 = .ok (.return_, 1) := by decide +kernel
theorem dX5_passOnce_0 : decode cX5_passOnce 0 = .ok (.aload_n 0, 1) := by decide +kernel
theorem dX5_passOnce_1 : decode cX5_passOnce 1 = .ok (.getfield 19, 3) := by decide +kernel
theorem dX5_passOnce_4 : decode cX5_passOnce 4 = .ok (.getfield 210, 3) := by decide +kernel
theorem dX5_passOnce_7 : decode cX5_passOnce 7 = .ok (.aload_n 1, 1) := by decide +kernel
theorem dX5_passOnce_8 : decode cX5_passOnce 8 = .ok (.getfield 173, 3) := by decide +kernel
theorem dX5_passOnce_11 : decode cX5_passOnce 11 = .ok (.iand, 1) := by decide +kernel
theorem dX5_passOnce_12 : decode cX5_passOnce 12 = .ok (.ifCond .eq 8, 3) := by decide +kernel
theorem dX5_passOnce_15 : decode cX5_passOnce 15 = .ok (.aload_n 0, 1) := by decide +kernel
theorem dX5_passOnce_16 : decode cX5_passOnce 16 = .ok (.iconst 3, 1) := by decide +kernel
theorem dX5_passOnce_17 : decode cX5_passOnce 17 = .ok (.invokevirtual 84, 3) := by decide +kernel
theorem dX5_passOnce_20 : decode cX5_passOnce 20 = .ok (.aload_n 0, 1) := by decide +kernel
theorem dX5_passOnce_21 : decode cX5_passOnce 21 = .ok (.getfield 19, 3) := by decide +kernel
theorem dX5_passOnce_24 : decode cX5_passOnce 24 = .ok (.dup, 1) := by decide +kernel
theorem dX5_passOnce_25 : decode cX5_passOnce 25 = .ok (.getfield 210, 3) := by decide +kernel
theorem dX5_passOnce_28 : decode cX5_passOnce 28 = .ok (.aload_n 1, 1) := by decide +kernel
theorem dX5_passOnce_29 : decode cX5_passOnce 29 = .ok (.getfield 173, 3) := by decide +kernel
theorem dX5_passOnce_32 : decode cX5_passOnce 32 = .ok (.ior, 1) := by decide +kernel
theorem dX5_passOnce_33 : decode cX5_passOnce 33 = .ok (.putfield 210, 3) := by decide +kernel
theorem dX5_passOnce_36 : decode cX5_passOnce 36 = .ok (.aload_n 0, 1) := by decide +kernel
theorem dX5_passOnce_37 : decode cX5_passOnce 37 = .ok (.invokevirtual 156, 3) := by decide +kernel
theorem dX5_passOnce_40 : decode cX5_passOnce 40 = .ok (.return_, 1) := by decide +kernel
theorem dX5_readSetting_0 : decode cX5_readSetting 0 = .ok (.aload_n 0, 1) := by decide +kernel
theorem dX5_readSetting_1 : decode cX5_readSetting 1 = .ok (.aload_n 1, 1) := by decide +kernel
theorem dX5_readSetting_2 : decode cX5_readSetting 2 = .ok (.invokevirtual 180, 3) := by decide +kernel
theorem dX5_readSetting_5 : decode cX5_readSetting 5 = .ok (.aload_n 1, 1) := by decide +kernel
theorem dX5_readSetting_6 : decode cX5_readSetting 6 = .ok (.getstatic 62, 3) := by decide +kernel
theorem dX5_readSetting_9 : decode cX5_readSetting 9 = .ok (.if_acmp .ne 20, 3) := by decide +kernel
theorem dX5_readSetting_12 : decode cX5_readSetting 12 = .ok (.aload_n 0, 1) := by decide +kernel
theorem dX5_readSetting_13 : decode cX5_readSetting 13 = .ok (.getfield 19, 3) := by decide +kernel
theorem dX5_readSetting_16 : decode cX5_readSetting 16 = .ok (.aload_n 0, 1) := by decide +kernel
theorem dX5_readSetting_17 : decode cX5_readSetting 17 = .ok (.iconst 2, 1) := by decide +kernel
theorem dX5_readSetting_18 : decode cX5_readSetting 18 = .ok (.bipush 12, 2) := by decide +kernel
theorem dX5_readSetting_20 : decode cX5_readSetting 20 = .ok (.invokevirtual 138, 3) := by decide +kernel
theorem dX5_readSetting_23 : decode cX5_readSetting 23 = .ok (.putfield 183, 3) := by decide +kernel
theorem dX5_readSetting_26 : decode cX5_readSetting 26 = .ok (.goto 41, 3) := by decide +kernel
theorem dX5_readSetting_29 : decode cX5_readSetting 29 = .ok (.aload_n 1, 1) := by decide +kernel
theorem dX5_readSetting_30 : decode cX5_readSetting 30 = .ok (.getstatic 65, 3) := by decide +kernel
theorem dX5_readSetting_33 : decode cX5_readSetting 33 = .ok (.if_acmp .ne 20, 3) := by decide +kernel
theorem dX5_readSetting_36 : decode cX5_readSetting 36 = .ok (.aload_n 0, 1) := by decide +kernel
theorem dX5_readSetting_37 : decode cX5_readSetting 37 = .ok (.getfield 19, 3) := by decide +kernel
theorem dX5_readSetting_40 : decode cX5_readSetting 40 = .ok (.aload_n 0, 1) := by decide +kernel
theorem dX5_readSetting_41 : decode cX5_readSetting 41 = .ok (.iconst 0, 1) := by decide +kernel
theorem dX5_readSetting_42 : decode cX5_readSetting 42 = .ok (.bipush 20, 2) := by decide +kernel
theorem dX5_readSetting_44 : decode cX5_readSetting 44 = .ok (.invokevirtual 138, 3) := by decide +kernel
theorem dX5_readSetting_47 : decode cX5_readSetting 47 = .ok (.putfield 186, 3) := by decide +kernel
theorem dX5_readSetting_50 : decode cX5_readSetting 50 = .ok (.goto 17, 3) := by decide +kernel
theorem dX5_readSetting_53 : decode cX5_readSetting 53 = .ok (.aload_n 0, 1) := by decide +kernel
theorem dX5_readSetting_54 : decode cX5_readSetting 54 = .ok (.getfield 19, 3) := by decide +kernel
theorem dX5_readSetting_57 : decode cX5_readSetting 57 = .ok (.aload_n 0, 1) := by decide +kernel
theorem dX5_readSetting_58 : decode cX5_readSetting 58 = .ok (.iconst 1, 1) := by decide +kernel
theorem dX5_readSetting_59 : decode cX5_readSetting 59 = .ok (.bipush 6, 2) := by decide +kernel
theorem dX5_readSetting_61 : decode cX5_readSetting 61 = .ok (.invokevirtual 138, 3) := by decide +kernel
theorem dX5_readSetting_64 : decode cX5_readSetting 64 = .ok (.putfield 189, 3) := by decide +kernel
theorem dX5_readSetting_67 : decode cX5_readSetting 67 = .ok (.aload_n 0, 1) := by decide +kernel
theorem dX5_readSetting_68 : decode cX5_readSetting 68 = .ok (.bipush 59, 2) := by decide +kernel
theorem dX5_readSetting_70 : decode cX5_readSetting 70 = .ok (.invokevirtual 145, 3) := by decide +kernel
theorem dX5_readSetting_73 : decode cX5_readSetting 73 = .ok (.return_, 1) := by decide +kernel
def F_thoughtNamed (a : aAS) (x : Int64) : Int32 :=
  (pl (a.1) x (a.2.2.2.2.2.2.2.1) 0)
set_option maxHeartbeats 4000000 in
set_option maxRecDepth 100000 in
theorem c_thoughtNamed (γ : kΓ) (l : Launch) (ab : Nat) (a0 : Nat) (a1 : Nat) (a2 : Nat) (a3 : Nat) (a4 : Nat) (a5 : Nat) (a6 : Nat) (a7 : Nat) (a : aAS) (x : Int64) (hA : aOK a) : kM γ l yX0_thoughtNamed cX0_thoughtNamed 3 ((some .int)) ({ frames := 1, cells := 0, slots := 0, locals := 24 } : Room) [.ref ab, .long x] (aWd γ ab a0 a1 a2 a3 a4 a5 a6 a7 a) (fun r w1 => r = some (.int (F_thoughtNamed a x)) ∧ w1 = (aWd γ ab a0 a1 a2 a3 a4 a5 a6 a7 a)) := by
  refine k_ofW (by decide) (Nat.le_of_ble_eq_true rfl) ?_
  intro p9 e s m below meth c A ls hC hr hlocks hname hw hl
  have hx := hC.1
  have hb := hC.2.1
  have hl : lv_has ls 3 [(0, .ref ab), (1, .long x)] := hl
  have hT : (a.2.2.2.2.2.2.2.1) ≤ 8 := hA.1
  have hQ : (a.2.2.2.2.2.2.2.2.1) ≤ 5 := hA.2.1
  have hE9 : (a.2.2.2.2.2.2.2.2.2.2.2.2.2.1) ≤ 1000 := hA.2.2
  refine lv_lload_n hx hb dX0_thoughtNamed_0 rfl (lv_at hl 1 rfl) ?_
  refine lv_aload_n hx hb dX0_thoughtNamed_1 rfl (lv_at hl 0 rfl) ?_
  refine fg_RX0_9 hC hw 0 rfl rfl dX0_thoughtNamed_2 ?_
  refine lv_aload_n hx hb dX0_thoughtNamed_5 rfl (lv_at hl 0 rfl) ?_
  refine fg_RX0_40 hC hw 0 rfl rfl dX0_thoughtNamed_6 ?_
  refine k_S (wr := [(ab, .inr (0, [.ref a0, .ref a1, .ref a2, .ref a3, .ref a4, .ref a5, .ref a6, .ref a7, .int (nI (a.2.2.2.2.2.2.2.1)), .int (nI (a.2.2.2.2.2.2.2.2.1)), .int (a.2.2.2.2.2.2.2.2.2.1), .int (a.2.2.2.2.2.2.2.2.2.2.1), .int (a.2.2.2.2.2.2.2.2.2.2.2.1), .int (a.2.2.2.2.2.2.2.2.2.2.2.2.1), .int (nI (a.2.2.2.2.2.2.2.2.2.2.2.2.2.1)), .int (a.2.2.2.2.2.2.2.2.2.2.2.2.2.2.1), .int (a.2.2.2.2.2.2.2.2.2.2.2.2.2.2.2.1), .int (a.2.2.2.2.2.2.2.2.2.2.2.2.2.2.2.2.1), .int (a.2.2.2.2.2.2.2.2.2.2.2.2.2.2.2.2.2)])), (a1, .inl (γ.2.1 0, 8, .inl (a.2.1))), (a2, .inl (γ.2.1 0, 8, .inl (a.2.2.1))), (a3, .inl (γ.2.1 0, 8, .inl (a.2.2.2.1))), (a4, .inl (γ.2.1 1, 5, .inr (.inl (a.2.2.2.2.1)))), (a5, .inl (γ.2.1 0, 5, .inl (a.2.2.2.2.2.1))), (a6, .inl (γ.2.1 0, 1000, .inl (a.2.2.2.2.2.2.1)))]) 3 gw_506 gw_507 gw_13 gw_508 hd_X0_placeOf hC hw (c_placeOf γ l x a0 8 (a.2.2.2.2.2.2.2.1) (a.1) hT (by decide)) ⟨by decide, by decide⟩ ⟨by decide, by decide⟩ hl.1 rfl rfl (Nat.le_of_ble_eq_true rfl) [1] [0, 2, 3, 4, 5, 6, 7] rfl rfl rfl rfl (by decide) dX0_thoughtNamed_9 (fun r w1 H locs hq hw => ?_)
  obtain ⟨rfl, rfl⟩ := hq
  have hw : kW γ A [(ab, .inr (0, [.ref a0, .ref a1, .ref a2, .ref a3, .ref a4, .ref a5, .ref a6, .ref a7, .int (nI (a.2.2.2.2.2.2.2.1)), .int (nI (a.2.2.2.2.2.2.2.2.1)), .int (a.2.2.2.2.2.2.2.2.2.1), .int (a.2.2.2.2.2.2.2.2.2.2.1), .int (a.2.2.2.2.2.2.2.2.2.2.2.1), .int (a.2.2.2.2.2.2.2.2.2.2.2.2.1), .int (nI (a.2.2.2.2.2.2.2.2.2.2.2.2.2.1)), .int (a.2.2.2.2.2.2.2.2.2.2.2.2.2.2.1), .int (a.2.2.2.2.2.2.2.2.2.2.2.2.2.2.2.1), .int (a.2.2.2.2.2.2.2.2.2.2.2.2.2.2.2.2.1), .int (a.2.2.2.2.2.2.2.2.2.2.2.2.2.2.2.2.2)])), (a1, .inl (γ.2.1 0, 8, .inl (a.2.1))), (a2, .inl (γ.2.1 0, 8, .inl (a.2.2.1))), (a3, .inl (γ.2.1 0, 8, .inl (a.2.2.2.1))), (a4, .inl (γ.2.1 1, 5, .inr (.inl (a.2.2.2.2.1)))), (a5, .inl (γ.2.1 0, 5, .inl (a.2.2.2.2.2.1))), (a6, .inl (γ.2.1 0, 1000, .inl (a.2.2.2.2.2.2.1))), (a0, .inl (γ.2.1 1, 8, .inr (.inl (a.1))))] s H locs := hw
  refine W.eq (g2 := F0 m 12 ls [.int (pl (a.1) x (a.2.2.2.2.2.2.2.1) 0)]) rfl ?_
  have hE : (F_thoughtNamed a x) = (pl (a.1) x (a.2.2.2.2.2.2.2.1) 0) := by unfold F_thoughtNamed; rfl
  have hw : kW γ A [(ab, .inr (0, [.ref a0, .ref a1, .ref a2, .ref a3, .ref a4, .ref a5, .ref a6, .ref a7, .int (nI (a.2.2.2.2.2.2.2.1)), .int (nI (a.2.2.2.2.2.2.2.2.1)), .int (a.2.2.2.2.2.2.2.2.2.1), .int (a.2.2.2.2.2.2.2.2.2.2.1), .int (a.2.2.2.2.2.2.2.2.2.2.2.1), .int (a.2.2.2.2.2.2.2.2.2.2.2.2.1), .int (nI (a.2.2.2.2.2.2.2.2.2.2.2.2.2.1)), .int (a.2.2.2.2.2.2.2.2.2.2.2.2.2.2.1), .int (a.2.2.2.2.2.2.2.2.2.2.2.2.2.2.2.1), .int (a.2.2.2.2.2.2.2.2.2.2.2.2.2.2.2.2.1), .int (a.2.2.2.2.2.2.2.2.2.2.2.2.2.2.2.2.2)])), (a1, .inl (γ.2.1 0, 8, .inl (a.2.1))), (a2, .inl (γ.2.1 0, 8, .inl (a.2.2.1))), (a3, .inl (γ.2.1 0, 8, .inl (a.2.2.2.1))), (a4, .inl (γ.2.1 1, 5, .inr (.inl (a.2.2.2.2.1)))), (a5, .inl (γ.2.1 0, 5, .inl (a.2.2.2.2.2.1))), (a6, .inl (γ.2.1 0, 1000, .inl (a.2.2.2.2.2.2.1))), (a0, .inl (γ.2.1 1, 8, .inr (.inl (a.1))))] s H locs := by first | (rw [hE]; exact hw) | exact hw
  exact k_iret hC hr hlocks hw [0, 7, 1, 2, 3, 4, 5, 6] rfl rfl ⟨by rw [hE], rfl⟩ (by decide) (by decide) dX0_thoughtNamed_12

def F_tenantNamed (a : aAS) (x : Int64) : Int32 :=
  (pl (a.2.2.2.2.1) x (a.2.2.2.2.2.2.2.2.1) 0)
set_option maxHeartbeats 4000000 in
set_option maxRecDepth 100000 in
theorem c_tenantNamed (γ : kΓ) (l : Launch) (ab : Nat) (a0 : Nat) (a1 : Nat) (a2 : Nat) (a3 : Nat) (a4 : Nat) (a5 : Nat) (a6 : Nat) (a7 : Nat) (a : aAS) (x : Int64) (hA : aOK a) : kM γ l yX0_tenantNamed cX0_tenantNamed 3 ((some .int)) ({ frames := 1, cells := 0, slots := 0, locals := 24 } : Room) [.ref ab, .long x] (aWd γ ab a0 a1 a2 a3 a4 a5 a6 a7 a) (fun r w1 => r = some (.int (F_tenantNamed a x)) ∧ w1 = (aWd γ ab a0 a1 a2 a3 a4 a5 a6 a7 a)) := by
  refine k_ofW (by decide) (Nat.le_of_ble_eq_true rfl) ?_
  intro p9 e s m below meth c A ls hC hr hlocks hname hw hl
  have hx := hC.1
  have hb := hC.2.1
  have hl : lv_has ls 3 [(0, .ref ab), (1, .long x)] := hl
  have hT : (a.2.2.2.2.2.2.2.1) ≤ 8 := hA.1
  have hQ : (a.2.2.2.2.2.2.2.2.1) ≤ 5 := hA.2.1
  have hE9 : (a.2.2.2.2.2.2.2.2.2.2.2.2.2.1) ≤ 1000 := hA.2.2
  refine lv_lload_n hx hb dX0_tenantNamed_0 rfl (lv_at hl 1 rfl) ?_
  refine lv_aload_n hx hb dX0_tenantNamed_1 rfl (lv_at hl 0 rfl) ?_
  refine fg_RX0_25 hC hw 0 rfl rfl dX0_tenantNamed_2 ?_
  refine lv_aload_n hx hb dX0_tenantNamed_5 rfl (lv_at hl 0 rfl) ?_
  refine fg_RX0_44 hC hw 0 rfl rfl dX0_tenantNamed_6 ?_
  refine k_S (wr := [(ab, .inr (0, [.ref a0, .ref a1, .ref a2, .ref a3, .ref a4, .ref a5, .ref a6, .ref a7, .int (nI (a.2.2.2.2.2.2.2.1)), .int (nI (a.2.2.2.2.2.2.2.2.1)), .int (a.2.2.2.2.2.2.2.2.2.1), .int (a.2.2.2.2.2.2.2.2.2.2.1), .int (a.2.2.2.2.2.2.2.2.2.2.2.1), .int (a.2.2.2.2.2.2.2.2.2.2.2.2.1), .int (nI (a.2.2.2.2.2.2.2.2.2.2.2.2.2.1)), .int (a.2.2.2.2.2.2.2.2.2.2.2.2.2.2.1), .int (a.2.2.2.2.2.2.2.2.2.2.2.2.2.2.2.1), .int (a.2.2.2.2.2.2.2.2.2.2.2.2.2.2.2.2.1), .int (a.2.2.2.2.2.2.2.2.2.2.2.2.2.2.2.2.2)])), (a0, .inl (γ.2.1 1, 8, .inr (.inl (a.1)))), (a1, .inl (γ.2.1 0, 8, .inl (a.2.1))), (a2, .inl (γ.2.1 0, 8, .inl (a.2.2.1))), (a3, .inl (γ.2.1 0, 8, .inl (a.2.2.2.1))), (a5, .inl (γ.2.1 0, 5, .inl (a.2.2.2.2.2.1))), (a6, .inl (γ.2.1 0, 1000, .inl (a.2.2.2.2.2.2.1)))]) 3 gw_506 gw_507 gw_13 gw_508 hd_X0_placeOf hC hw (c_placeOf γ l x a4 5 (a.2.2.2.2.2.2.2.2.1) (a.2.2.2.2.1) hQ (by decide)) ⟨by decide, by decide⟩ ⟨by decide, by decide⟩ hl.1 rfl rfl (Nat.le_of_ble_eq_true rfl) [5] [0, 1, 2, 3, 4, 6, 7] rfl rfl rfl rfl (by decide) dX0_tenantNamed_9 (fun r w1 H locs hq hw => ?_)
  obtain ⟨rfl, rfl⟩ := hq
  have hw : kW γ A [(ab, .inr (0, [.ref a0, .ref a1, .ref a2, .ref a3, .ref a4, .ref a5, .ref a6, .ref a7, .int (nI (a.2.2.2.2.2.2.2.1)), .int (nI (a.2.2.2.2.2.2.2.2.1)), .int (a.2.2.2.2.2.2.2.2.2.1), .int (a.2.2.2.2.2.2.2.2.2.2.1), .int (a.2.2.2.2.2.2.2.2.2.2.2.1), .int (a.2.2.2.2.2.2.2.2.2.2.2.2.1), .int (nI (a.2.2.2.2.2.2.2.2.2.2.2.2.2.1)), .int (a.2.2.2.2.2.2.2.2.2.2.2.2.2.2.1), .int (a.2.2.2.2.2.2.2.2.2.2.2.2.2.2.2.1), .int (a.2.2.2.2.2.2.2.2.2.2.2.2.2.2.2.2.1), .int (a.2.2.2.2.2.2.2.2.2.2.2.2.2.2.2.2.2)])), (a0, .inl (γ.2.1 1, 8, .inr (.inl (a.1)))), (a1, .inl (γ.2.1 0, 8, .inl (a.2.1))), (a2, .inl (γ.2.1 0, 8, .inl (a.2.2.1))), (a3, .inl (γ.2.1 0, 8, .inl (a.2.2.2.1))), (a5, .inl (γ.2.1 0, 5, .inl (a.2.2.2.2.2.1))), (a6, .inl (γ.2.1 0, 1000, .inl (a.2.2.2.2.2.2.1))), (a4, .inl (γ.2.1 1, 5, .inr (.inl (a.2.2.2.2.1))))] s H locs := hw
  refine W.eq (g2 := F0 m 12 ls [.int (pl (a.2.2.2.2.1) x (a.2.2.2.2.2.2.2.2.1) 0)]) rfl ?_
  have hE : (F_tenantNamed a x) = (pl (a.2.2.2.2.1) x (a.2.2.2.2.2.2.2.2.1) 0) := by unfold F_tenantNamed; rfl
  have hw : kW γ A [(ab, .inr (0, [.ref a0, .ref a1, .ref a2, .ref a3, .ref a4, .ref a5, .ref a6, .ref a7, .int (nI (a.2.2.2.2.2.2.2.1)), .int (nI (a.2.2.2.2.2.2.2.2.1)), .int (a.2.2.2.2.2.2.2.2.2.1), .int (a.2.2.2.2.2.2.2.2.2.2.1), .int (a.2.2.2.2.2.2.2.2.2.2.2.1), .int (a.2.2.2.2.2.2.2.2.2.2.2.2.1), .int (nI (a.2.2.2.2.2.2.2.2.2.2.2.2.2.1)), .int (a.2.2.2.2.2.2.2.2.2.2.2.2.2.2.1), .int (a.2.2.2.2.2.2.2.2.2.2.2.2.2.2.2.1), .int (a.2.2.2.2.2.2.2.2.2.2.2.2.2.2.2.2.1), .int (a.2.2.2.2.2.2.2.2.2.2.2.2.2.2.2.2.2)])), (a0, .inl (γ.2.1 1, 8, .inr (.inl (a.1)))), (a1, .inl (γ.2.1 0, 8, .inl (a.2.1))), (a2, .inl (γ.2.1 0, 8, .inl (a.2.2.1))), (a3, .inl (γ.2.1 0, 8, .inl (a.2.2.2.1))), (a5, .inl (γ.2.1 0, 5, .inl (a.2.2.2.2.2.1))), (a6, .inl (γ.2.1 0, 1000, .inl (a.2.2.2.2.2.2.1))), (a4, .inl (γ.2.1 1, 5, .inr (.inl (a.2.2.2.2.1))))] s H locs := by first | (rw [hE]; exact hw) | exact hw
  exact k_iret hC hr hlocks hw [0, 1, 2, 3, 4, 7, 5, 6] rfl rfl ⟨by rw [hE], rfl⟩ (by decide) (by decide) dX0_tenantNamed_12

def F_addThought (a : aAS) (x : Int64) (w : Int32) (q : Int32) : aAS :=
  if 8 ≤ (nI (a.2.2.2.2.2.2.2.1)) then a else ((vp_updL (a.1) ((nI (a.2.2.2.2.2.2.2.1)) : Int32).toNatClampNeg x), (upd (a.2.1) ((nI (a.2.2.2.2.2.2.2.1)) : Int32).toNatClampNeg w), (upd (a.2.2.1) ((nI (a.2.2.2.2.2.2.2.1)) : Int32).toNatClampNeg q), (upd (a.2.2.2.1) ((nI (a.2.2.2.2.2.2.2.1)) : Int32).toNatClampNeg 0), (a.2.2.2.2.1), (a.2.2.2.2.2.1), (a.2.2.2.2.2.2.1), ((a.2.2.2.2.2.2.2.1) + 1), (a.2.2.2.2.2.2.2.2.1), (a.2.2.2.2.2.2.2.2.2.1), (a.2.2.2.2.2.2.2.2.2.2.1), (a.2.2.2.2.2.2.2.2.2.2.2.1), (a.2.2.2.2.2.2.2.2.2.2.2.2.1), (a.2.2.2.2.2.2.2.2.2.2.2.2.2.1), (a.2.2.2.2.2.2.2.2.2.2.2.2.2.2.1), (a.2.2.2.2.2.2.2.2.2.2.2.2.2.2.2.1), (a.2.2.2.2.2.2.2.2.2.2.2.2.2.2.2.2.1), (a.2.2.2.2.2.2.2.2.2.2.2.2.2.2.2.2.2))
set_option maxHeartbeats 4000000 in
set_option maxRecDepth 100000 in
theorem c_addThought (γ : kΓ) (l : Launch) (ab : Nat) (a0 : Nat) (a1 : Nat) (a2 : Nat) (a3 : Nat) (a4 : Nat) (a5 : Nat) (a6 : Nat) (a7 : Nat) (a : aAS) (x : Int64) (w : Int32) (q : Int32) (hA : aOK a) : kM γ l yX0_addThought cX0_addThought 5 none ({ frames := 0, cells := 0, slots := 0, locals := 0 } : Room) [.ref ab, .long x, .int w, .int q] (aWd γ ab a0 a1 a2 a3 a4 a5 a6 a7 a) (fun r w1 => r = none ∧ w1 = (aWd γ ab a0 a1 a2 a3 a4 a5 a6 a7 (F_addThought a x w q))) := by
  refine k_ofW (by decide) (Nat.le_of_ble_eq_true rfl) ?_
  intro p9 e s m below meth c A ls hC hr hlocks hname hw hl
  have hx := hC.1
  have hb := hC.2.1
  have hl : lv_has ls 5 [(0, .ref ab), (1, .long x), (3, .int w), (4, .int q)] := hl
  have hT : (a.2.2.2.2.2.2.2.1) ≤ 8 := hA.1
  have hQ : (a.2.2.2.2.2.2.2.2.1) ≤ 5 := hA.2.1
  have hE9 : (a.2.2.2.2.2.2.2.2.2.2.2.2.2.1) ≤ 1000 := hA.2.2
  refine lv_aload_n hx hb dX0_addThought_0 rfl (lv_at hl 0 rfl) ?_
  refine fg_RX0_40 hC hw 0 rfl rfl dX0_addThought_1 ?_
  refine lv_bipush (v := 8) hx hb dX0_addThought_4 (by decide) ?_
  refine lv_icmp_ge (tgt := 60) hx hb dX0_addThought_6 (by decide) (fun c_79 => ?_) (fun c_79 => ?_)
  · have hE : (F_addThought a x w q) = a := by unfold F_addThought; rw [if_pos c_79]
    have hw : kW γ A (aWd γ ab a0 a1 a2 a3 a4 a5 a6 a7 (F_addThought a x w q)) s s.heap [] := by first | (rw [hE]; exact hw) | exact hw
    exact k_vret hC hr hlocks hw [0, 1, 2, 3, 4, 5, 6, 7] rfl rfl ⟨rfl, rfl⟩ (by decide) (by decide) dX0_addThought_60
  · refine lv_aload_n hx hb dX0_addThought_9 rfl (lv_at hl 0 rfl) ?_
    refine fg_RX0_9 hC hw 0 rfl rfl dX0_addThought_10 ?_
    refine lv_aload_n hx hb dX0_addThought_13 rfl (lv_at hl 0 rfl) ?_
    refine fg_RX0_40 hC hw 0 rfl rfl dX0_addThought_14 ?_
    refine lv_lload_n hx hb dX0_addThought_17 rfl (lv_at hl 1 rfl) ?_
    refine k_last hC hw 1 rfl (vp_in_nI (lt_c (T := (a.2.2.2.2.2.2.2.1)) (k := 8) (by decide) (by omega) c_79) (by decide)) dX0_addThought_18 (fun H locs hw => ?_)
    have hw : kW γ A (aWd γ ab a0 a1 a2 a3 a4 a5 a6 a7 ((vp_updL (a.1) ((nI (a.2.2.2.2.2.2.2.1)) : Int32).toNatClampNeg x), (a.2.1), (a.2.2.1), (a.2.2.2.1), (a.2.2.2.2.1), (a.2.2.2.2.2.1), (a.2.2.2.2.2.2.1), (a.2.2.2.2.2.2.2.1), (a.2.2.2.2.2.2.2.2.1), (a.2.2.2.2.2.2.2.2.2.1), (a.2.2.2.2.2.2.2.2.2.2.1), (a.2.2.2.2.2.2.2.2.2.2.2.1), (a.2.2.2.2.2.2.2.2.2.2.2.2.1), (a.2.2.2.2.2.2.2.2.2.2.2.2.2.1), (a.2.2.2.2.2.2.2.2.2.2.2.2.2.2.1), (a.2.2.2.2.2.2.2.2.2.2.2.2.2.2.2.1), (a.2.2.2.2.2.2.2.2.2.2.2.2.2.2.2.2.1), (a.2.2.2.2.2.2.2.2.2.2.2.2.2.2.2.2.2))) s H locs := hw
    refine lv_aload_n hx hb dX0_addThought_19 rfl (lv_at hl 0 rfl) ?_
    refine fg_RX0_15 hC hw 0 rfl rfl dX0_addThought_20 ?_
    refine lv_aload_n hx hb dX0_addThought_23 rfl (lv_at hl 0 rfl) ?_
    refine fg_RX0_40 hC hw 0 rfl rfl dX0_addThought_24 ?_
    refine lv_iload_n hx hb dX0_addThought_27 rfl (lv_at hl 2 rfl) ?_
    refine k_iast hC hw 2 rfl (vp_in_nI (lt_c (T := (a.2.2.2.2.2.2.2.1)) (k := 8) (by decide) (by omega) c_79) (by decide)) dX0_addThought_28 (fun H locs hw => ?_)
    have hw : kW γ A (aWd γ ab a0 a1 a2 a3 a4 a5 a6 a7 ((vp_updL (a.1) ((nI (a.2.2.2.2.2.2.2.1)) : Int32).toNatClampNeg x), (upd (a.2.1) ((nI (a.2.2.2.2.2.2.2.1)) : Int32).toNatClampNeg w), (a.2.2.1), (a.2.2.2.1), (a.2.2.2.2.1), (a.2.2.2.2.2.1), (a.2.2.2.2.2.2.1), (a.2.2.2.2.2.2.2.1), (a.2.2.2.2.2.2.2.2.1), (a.2.2.2.2.2.2.2.2.2.1), (a.2.2.2.2.2.2.2.2.2.2.1), (a.2.2.2.2.2.2.2.2.2.2.2.1), (a.2.2.2.2.2.2.2.2.2.2.2.2.1), (a.2.2.2.2.2.2.2.2.2.2.2.2.2.1), (a.2.2.2.2.2.2.2.2.2.2.2.2.2.2.1), (a.2.2.2.2.2.2.2.2.2.2.2.2.2.2.2.1), (a.2.2.2.2.2.2.2.2.2.2.2.2.2.2.2.2.1), (a.2.2.2.2.2.2.2.2.2.2.2.2.2.2.2.2.2))) s H locs := hw
    refine lv_aload_n hx hb dX0_addThought_29 rfl (lv_at hl 0 rfl) ?_
    refine fg_RX0_19 hC hw 0 rfl rfl dX0_addThought_30 ?_
    refine lv_aload_n hx hb dX0_addThought_33 rfl (lv_at hl 0 rfl) ?_
    refine fg_RX0_40 hC hw 0 rfl rfl dX0_addThought_34 ?_
    refine lv_iload hx hb dX0_addThought_37 (lv_at hl 3 rfl) ?_
    refine k_iast hC hw 3 rfl (vp_in_nI (lt_c (T := (a.2.2.2.2.2.2.2.1)) (k := 8) (by decide) (by omega) c_79) (by decide)) dX0_addThought_39 (fun H locs hw => ?_)
    have hw : kW γ A (aWd γ ab a0 a1 a2 a3 a4 a5 a6 a7 ((vp_updL (a.1) ((nI (a.2.2.2.2.2.2.2.1)) : Int32).toNatClampNeg x), (upd (a.2.1) ((nI (a.2.2.2.2.2.2.2.1)) : Int32).toNatClampNeg w), (upd (a.2.2.1) ((nI (a.2.2.2.2.2.2.2.1)) : Int32).toNatClampNeg q), (a.2.2.2.1), (a.2.2.2.2.1), (a.2.2.2.2.2.1), (a.2.2.2.2.2.2.1), (a.2.2.2.2.2.2.2.1), (a.2.2.2.2.2.2.2.2.1), (a.2.2.2.2.2.2.2.2.2.1), (a.2.2.2.2.2.2.2.2.2.2.1), (a.2.2.2.2.2.2.2.2.2.2.2.1), (a.2.2.2.2.2.2.2.2.2.2.2.2.1), (a.2.2.2.2.2.2.2.2.2.2.2.2.2.1), (a.2.2.2.2.2.2.2.2.2.2.2.2.2.2.1), (a.2.2.2.2.2.2.2.2.2.2.2.2.2.2.2.1), (a.2.2.2.2.2.2.2.2.2.2.2.2.2.2.2.2.1), (a.2.2.2.2.2.2.2.2.2.2.2.2.2.2.2.2.2))) s H locs := hw
    refine lv_aload_n hx hb dX0_addThought_40 rfl (lv_at hl 0 rfl) ?_
    refine fg_RX0_22 hC hw 0 rfl rfl dX0_addThought_41 ?_
    refine lv_aload_n hx hb dX0_addThought_44 rfl (lv_at hl 0 rfl) ?_
    refine fg_RX0_40 hC hw 0 rfl rfl dX0_addThought_45 ?_
    refine lv_iconst (v := 0) hx hb dX0_addThought_48 (by decide) ?_
    refine k_iast hC hw 4 rfl (vp_in_nI (lt_c (T := (a.2.2.2.2.2.2.2.1)) (k := 8) (by decide) (by omega) c_79) (by decide)) dX0_addThought_49 (fun H locs hw => ?_)
    have hw : kW γ A (aWd γ ab a0 a1 a2 a3 a4 a5 a6 a7 ((vp_updL (a.1) ((nI (a.2.2.2.2.2.2.2.1)) : Int32).toNatClampNeg x), (upd (a.2.1) ((nI (a.2.2.2.2.2.2.2.1)) : Int32).toNatClampNeg w), (upd (a.2.2.1) ((nI (a.2.2.2.2.2.2.2.1)) : Int32).toNatClampNeg q), (upd (a.2.2.2.1) ((nI (a.2.2.2.2.2.2.2.1)) : Int32).toNatClampNeg 0), (a.2.2.2.2.1), (a.2.2.2.2.2.1), (a.2.2.2.2.2.2.1), (a.2.2.2.2.2.2.2.1), (a.2.2.2.2.2.2.2.2.1), (a.2.2.2.2.2.2.2.2.2.1), (a.2.2.2.2.2.2.2.2.2.2.1), (a.2.2.2.2.2.2.2.2.2.2.2.1), (a.2.2.2.2.2.2.2.2.2.2.2.2.1), (a.2.2.2.2.2.2.2.2.2.2.2.2.2.1), (a.2.2.2.2.2.2.2.2.2.2.2.2.2.2.1), (a.2.2.2.2.2.2.2.2.2.2.2.2.2.2.2.1), (a.2.2.2.2.2.2.2.2.2.2.2.2.2.2.2.2.1), (a.2.2.2.2.2.2.2.2.2.2.2.2.2.2.2.2.2))) s H locs := hw
    refine lv_aload_n hx hb dX0_addThought_50 rfl (lv_at hl 0 rfl) ?_
    refine lv_dup hx hb dX0_addThought_51 rfl ?_
    refine fg_RX0_40 hC hw 0 rfl rfl dX0_addThought_52 ?_
    refine lv_iconst (v := 1) hx hb dX0_addThought_55 (by decide) ?_
    refine lv_iadd hx hb dX0_addThought_56 ?_
    refine lv_topi (fun x_80 ex_80 => ?_)
    obtain rfl : x_80 = (nI ((a.2.2.2.2.2.2.2.1) + 1)) := ex_80.trans (nI_1 _)
    refine fs_RX0_40 hC hw 0 rfl rfl rfl (Nat.le_of_ble_eq_true rfl) dX0_addThought_57 (fun H locs hw => ?_)
    have hw : kW γ A (aWd γ ab a0 a1 a2 a3 a4 a5 a6 a7 ((vp_updL (a.1) ((nI (a.2.2.2.2.2.2.2.1)) : Int32).toNatClampNeg x), (upd (a.2.1) ((nI (a.2.2.2.2.2.2.2.1)) : Int32).toNatClampNeg w), (upd (a.2.2.1) ((nI (a.2.2.2.2.2.2.2.1)) : Int32).toNatClampNeg q), (upd (a.2.2.2.1) ((nI (a.2.2.2.2.2.2.2.1)) : Int32).toNatClampNeg 0), (a.2.2.2.2.1), (a.2.2.2.2.2.1), (a.2.2.2.2.2.2.1), ((a.2.2.2.2.2.2.2.1) + 1), (a.2.2.2.2.2.2.2.2.1), (a.2.2.2.2.2.2.2.2.2.1), (a.2.2.2.2.2.2.2.2.2.2.1), (a.2.2.2.2.2.2.2.2.2.2.2.1), (a.2.2.2.2.2.2.2.2.2.2.2.2.1), (a.2.2.2.2.2.2.2.2.2.2.2.2.2.1), (a.2.2.2.2.2.2.2.2.2.2.2.2.2.2.1), (a.2.2.2.2.2.2.2.2.2.2.2.2.2.2.2.1), (a.2.2.2.2.2.2.2.2.2.2.2.2.2.2.2.2.1), (a.2.2.2.2.2.2.2.2.2.2.2.2.2.2.2.2.2))) s H locs := hw
    have hE : (F_addThought a x w q) = ((vp_updL (a.1) ((nI (a.2.2.2.2.2.2.2.1)) : Int32).toNatClampNeg x), (upd (a.2.1) ((nI (a.2.2.2.2.2.2.2.1)) : Int32).toNatClampNeg w), (upd (a.2.2.1) ((nI (a.2.2.2.2.2.2.2.1)) : Int32).toNatClampNeg q), (upd (a.2.2.2.1) ((nI (a.2.2.2.2.2.2.2.1)) : Int32).toNatClampNeg 0), (a.2.2.2.2.1), (a.2.2.2.2.2.1), (a.2.2.2.2.2.2.1), ((a.2.2.2.2.2.2.2.1) + 1), (a.2.2.2.2.2.2.2.2.1), (a.2.2.2.2.2.2.2.2.2.1), (a.2.2.2.2.2.2.2.2.2.2.1), (a.2.2.2.2.2.2.2.2.2.2.2.1), (a.2.2.2.2.2.2.2.2.2.2.2.2.1), (a.2.2.2.2.2.2.2.2.2.2.2.2.2.1), (a.2.2.2.2.2.2.2.2.2.2.2.2.2.2.1), (a.2.2.2.2.2.2.2.2.2.2.2.2.2.2.2.1), (a.2.2.2.2.2.2.2.2.2.2.2.2.2.2.2.2.1), (a.2.2.2.2.2.2.2.2.2.2.2.2.2.2.2.2.2)) := by unfold F_addThought; rw [if_neg c_79]
    have hw : kW γ A (aWd γ ab a0 a1 a2 a3 a4 a5 a6 a7 (F_addThought a x w q)) s H locs := by first | (rw [hE]; exact hw) | exact hw
    exact k_vret hC hr hlocks hw [0, 1, 2, 3, 4, 5, 6, 7] rfl rfl ⟨rfl, rfl⟩ (by decide) (by decide) dX0_addThought_60

def F_addTenant (a : aAS) (x : Int64) (q : Int32) : aAS :=
  if 5 ≤ (nI (a.2.2.2.2.2.2.2.2.1)) then a else ((a.1), (a.2.1), (a.2.2.1), (a.2.2.2.1), (vp_updL (a.2.2.2.2.1) ((nI (a.2.2.2.2.2.2.2.2.1)) : Int32).toNatClampNeg x), (upd (a.2.2.2.2.2.1) ((nI (a.2.2.2.2.2.2.2.2.1)) : Int32).toNatClampNeg q), (a.2.2.2.2.2.2.1), (a.2.2.2.2.2.2.2.1), ((a.2.2.2.2.2.2.2.2.1) + 1), (a.2.2.2.2.2.2.2.2.2.1), (a.2.2.2.2.2.2.2.2.2.2.1), (a.2.2.2.2.2.2.2.2.2.2.2.1), (a.2.2.2.2.2.2.2.2.2.2.2.2.1), (a.2.2.2.2.2.2.2.2.2.2.2.2.2.1), (a.2.2.2.2.2.2.2.2.2.2.2.2.2.2.1), (a.2.2.2.2.2.2.2.2.2.2.2.2.2.2.2.1), (a.2.2.2.2.2.2.2.2.2.2.2.2.2.2.2.2.1), (a.2.2.2.2.2.2.2.2.2.2.2.2.2.2.2.2.2))
set_option maxHeartbeats 4000000 in
set_option maxRecDepth 100000 in
theorem c_addTenant (γ : kΓ) (l : Launch) (ab : Nat) (a0 : Nat) (a1 : Nat) (a2 : Nat) (a3 : Nat) (a4 : Nat) (a5 : Nat) (a6 : Nat) (a7 : Nat) (a : aAS) (x : Int64) (q : Int32) (hA : aOK a) : kM γ l yX0_addTenant cX0_addTenant 4 none ({ frames := 0, cells := 0, slots := 0, locals := 0 } : Room) [.ref ab, .long x, .int q] (aWd γ ab a0 a1 a2 a3 a4 a5 a6 a7 a) (fun r w1 => r = none ∧ w1 = (aWd γ ab a0 a1 a2 a3 a4 a5 a6 a7 (F_addTenant a x q))) := by
  refine k_ofW (by decide) (Nat.le_of_ble_eq_true rfl) ?_
  intro p9 e s m below meth c A ls hC hr hlocks hname hw hl
  have hx := hC.1
  have hb := hC.2.1
  have hl : lv_has ls 4 [(0, .ref ab), (1, .long x), (3, .int q)] := hl
  have hT : (a.2.2.2.2.2.2.2.1) ≤ 8 := hA.1
  have hQ : (a.2.2.2.2.2.2.2.2.1) ≤ 5 := hA.2.1
  have hE9 : (a.2.2.2.2.2.2.2.2.2.2.2.2.2.1) ≤ 1000 := hA.2.2
  refine lv_aload_n hx hb dX0_addTenant_0 rfl (lv_at hl 0 rfl) ?_
  refine fg_RX0_44 hC hw 0 rfl rfl dX0_addTenant_1 ?_
  refine lv_iconst (v := 5) hx hb dX0_addTenant_4 (by decide) ?_
  refine lv_icmp_ge (tgt := 38) hx hb dX0_addTenant_5 (by decide) (fun c_99 => ?_) (fun c_99 => ?_)
  · have hE : (F_addTenant a x q) = a := by unfold F_addTenant; rw [if_pos c_99]
    have hw : kW γ A (aWd γ ab a0 a1 a2 a3 a4 a5 a6 a7 (F_addTenant a x q)) s s.heap [] := by first | (rw [hE]; exact hw) | exact hw
    exact k_vret hC hr hlocks hw [0, 1, 2, 3, 4, 5, 6, 7] rfl rfl ⟨rfl, rfl⟩ (by decide) (by decide) dX0_addTenant_38
  · refine lv_aload_n hx hb dX0_addTenant_8 rfl (lv_at hl 0 rfl) ?_
    refine fg_RX0_25 hC hw 0 rfl rfl dX0_addTenant_9 ?_
    refine lv_aload_n hx hb dX0_addTenant_12 rfl (lv_at hl 0 rfl) ?_
    refine fg_RX0_44 hC hw 0 rfl rfl dX0_addTenant_13 ?_
    refine lv_lload_n hx hb dX0_addTenant_16 rfl (lv_at hl 1 rfl) ?_
    refine k_last hC hw 5 rfl (vp_in_nI (lt_c (T := (a.2.2.2.2.2.2.2.2.1)) (k := 5) (by decide) (by omega) c_99) (by decide)) dX0_addTenant_17 (fun H locs hw => ?_)
    have hw : kW γ A (aWd γ ab a0 a1 a2 a3 a4 a5 a6 a7 ((a.1), (a.2.1), (a.2.2.1), (a.2.2.2.1), (vp_updL (a.2.2.2.2.1) ((nI (a.2.2.2.2.2.2.2.2.1)) : Int32).toNatClampNeg x), (a.2.2.2.2.2.1), (a.2.2.2.2.2.2.1), (a.2.2.2.2.2.2.2.1), (a.2.2.2.2.2.2.2.2.1), (a.2.2.2.2.2.2.2.2.2.1), (a.2.2.2.2.2.2.2.2.2.2.1), (a.2.2.2.2.2.2.2.2.2.2.2.1), (a.2.2.2.2.2.2.2.2.2.2.2.2.1), (a.2.2.2.2.2.2.2.2.2.2.2.2.2.1), (a.2.2.2.2.2.2.2.2.2.2.2.2.2.2.1), (a.2.2.2.2.2.2.2.2.2.2.2.2.2.2.2.1), (a.2.2.2.2.2.2.2.2.2.2.2.2.2.2.2.2.1), (a.2.2.2.2.2.2.2.2.2.2.2.2.2.2.2.2.2))) s H locs := hw
    refine lv_aload_n hx hb dX0_addTenant_18 rfl (lv_at hl 0 rfl) ?_
    refine fg_RX0_28 hC hw 0 rfl rfl dX0_addTenant_19 ?_
    refine lv_aload_n hx hb dX0_addTenant_22 rfl (lv_at hl 0 rfl) ?_
    refine fg_RX0_44 hC hw 0 rfl rfl dX0_addTenant_23 ?_
    refine lv_iload_n hx hb dX0_addTenant_26 rfl (lv_at hl 2 rfl) ?_
    refine k_iast hC hw 6 rfl (vp_in_nI (lt_c (T := (a.2.2.2.2.2.2.2.2.1)) (k := 5) (by decide) (by omega) c_99) (by decide)) dX0_addTenant_27 (fun H locs hw => ?_)
    have hw : kW γ A (aWd γ ab a0 a1 a2 a3 a4 a5 a6 a7 ((a.1), (a.2.1), (a.2.2.1), (a.2.2.2.1), (vp_updL (a.2.2.2.2.1) ((nI (a.2.2.2.2.2.2.2.2.1)) : Int32).toNatClampNeg x), (upd (a.2.2.2.2.2.1) ((nI (a.2.2.2.2.2.2.2.2.1)) : Int32).toNatClampNeg q), (a.2.2.2.2.2.2.1), (a.2.2.2.2.2.2.2.1), (a.2.2.2.2.2.2.2.2.1), (a.2.2.2.2.2.2.2.2.2.1), (a.2.2.2.2.2.2.2.2.2.2.1), (a.2.2.2.2.2.2.2.2.2.2.2.1), (a.2.2.2.2.2.2.2.2.2.2.2.2.1), (a.2.2.2.2.2.2.2.2.2.2.2.2.2.1), (a.2.2.2.2.2.2.2.2.2.2.2.2.2.2.1), (a.2.2.2.2.2.2.2.2.2.2.2.2.2.2.2.1), (a.2.2.2.2.2.2.2.2.2.2.2.2.2.2.2.2.1), (a.2.2.2.2.2.2.2.2.2.2.2.2.2.2.2.2.2))) s H locs := hw
    refine lv_aload_n hx hb dX0_addTenant_28 rfl (lv_at hl 0 rfl) ?_
    refine lv_dup hx hb dX0_addTenant_29 rfl ?_
    refine fg_RX0_44 hC hw 0 rfl rfl dX0_addTenant_30 ?_
    refine lv_iconst (v := 1) hx hb dX0_addTenant_33 (by decide) ?_
    refine lv_iadd hx hb dX0_addTenant_34 ?_
    refine lv_topi (fun x_100 ex_100 => ?_)
    obtain rfl : x_100 = (nI ((a.2.2.2.2.2.2.2.2.1) + 1)) := ex_100.trans (nI_1 _)
    refine fs_RX0_44 hC hw 0 rfl rfl rfl (Nat.le_of_ble_eq_true rfl) dX0_addTenant_35 (fun H locs hw => ?_)
    have hw : kW γ A (aWd γ ab a0 a1 a2 a3 a4 a5 a6 a7 ((a.1), (a.2.1), (a.2.2.1), (a.2.2.2.1), (vp_updL (a.2.2.2.2.1) ((nI (a.2.2.2.2.2.2.2.2.1)) : Int32).toNatClampNeg x), (upd (a.2.2.2.2.2.1) ((nI (a.2.2.2.2.2.2.2.2.1)) : Int32).toNatClampNeg q), (a.2.2.2.2.2.2.1), (a.2.2.2.2.2.2.2.1), ((a.2.2.2.2.2.2.2.2.1) + 1), (a.2.2.2.2.2.2.2.2.2.1), (a.2.2.2.2.2.2.2.2.2.2.1), (a.2.2.2.2.2.2.2.2.2.2.2.1), (a.2.2.2.2.2.2.2.2.2.2.2.2.1), (a.2.2.2.2.2.2.2.2.2.2.2.2.2.1), (a.2.2.2.2.2.2.2.2.2.2.2.2.2.2.1), (a.2.2.2.2.2.2.2.2.2.2.2.2.2.2.2.1), (a.2.2.2.2.2.2.2.2.2.2.2.2.2.2.2.2.1), (a.2.2.2.2.2.2.2.2.2.2.2.2.2.2.2.2.2))) s H locs := hw
    have hE : (F_addTenant a x q) = ((a.1), (a.2.1), (a.2.2.1), (a.2.2.2.1), (vp_updL (a.2.2.2.2.1) ((nI (a.2.2.2.2.2.2.2.2.1)) : Int32).toNatClampNeg x), (upd (a.2.2.2.2.2.1) ((nI (a.2.2.2.2.2.2.2.2.1)) : Int32).toNatClampNeg q), (a.2.2.2.2.2.2.1), (a.2.2.2.2.2.2.2.1), ((a.2.2.2.2.2.2.2.2.1) + 1), (a.2.2.2.2.2.2.2.2.2.1), (a.2.2.2.2.2.2.2.2.2.2.1), (a.2.2.2.2.2.2.2.2.2.2.2.1), (a.2.2.2.2.2.2.2.2.2.2.2.2.1), (a.2.2.2.2.2.2.2.2.2.2.2.2.2.1), (a.2.2.2.2.2.2.2.2.2.2.2.2.2.2.1), (a.2.2.2.2.2.2.2.2.2.2.2.2.2.2.2.1), (a.2.2.2.2.2.2.2.2.2.2.2.2.2.2.2.2.1), (a.2.2.2.2.2.2.2.2.2.2.2.2.2.2.2.2.2)) := by unfold F_addTenant; rw [if_neg c_99]
    have hw : kW γ A (aWd γ ab a0 a1 a2 a3 a4 a5 a6 a7 (F_addTenant a x q)) s H locs := by first | (rw [hE]; exact hw) | exact hw
    exact k_vret hC hr hlocks hw [0, 1, 2, 3, 4, 5, 6, 7] rfl rfl ⟨rfl, rfl⟩ (by decide) (by decide) dX0_addTenant_38

def F_newName (f : Nat → Int32) (n : Nat) (rs : rRS) (a : aAS) : Int64 × rRS :=
  if (kWm.getD (tw f n (rs.2.1)) 0) = 0 then ((rs.2.2.2), (F_passUF f n (F_fail f n rs 1))) else (if (F_thoughtNamed a (rs.2.2.2)) = (-1) then (if (F_tenantNamed a (rs.2.2.2)) = (-1) then ((rs.2.2.2), (F_passUF f n rs)) else ((rs.2.2.2), (F_passUF f n (F_fail f n rs 3)))) else ((rs.2.2.2), (F_passUF f n (F_fail f n rs 3))))
set_option maxHeartbeats 4000000 in
set_option maxRecDepth 100000 in
theorem c_newName (γ : kΓ) (l : Launch) (rr : Nat) (rl : Nat) (ab : Nat) (mn : Int32) (h : Nat) (hg : Nat) (n : Nat) (rs : rRS) (f : Nat → Int32) (a0 : Nat) (a1 : Nat) (a2 : Nat) (a3 : Nat) (a4 : Nat) (a5 : Nat) (a6 : Nat) (a7 : Nat) (a : aAS) (hn : n ≤ 1000) (hok : ∀ k, k < n → kok (f k) = true) (hA : aOK a) : kM γ l yX5_newName cX5_newName 3 ((some .long)) ({ frames := 3, cells := 0, slots := 0, locals := 81 } : Room) [.ref rr] ([(rr, .inr (5, [.ref h, .ref rl, .ref ab, .int mn, .int (rs.1)]))] ++ (tWd γ h hg n f (rs.2.1) (rs.2.2.1) (rs.2.2.2)) ++ (aWd γ ab a0 a1 a2 a3 a4 a5 a6 a7 a)) (fun r w1 => r = some (.long ((F_newName f n rs a).1)) ∧ w1 = ([(rr, .inr (5, [.ref h, .ref rl, .ref ab, .int mn, .int (((F_newName f n rs a).2).1)]))] ++ (tWd γ h hg n f (((F_newName f n rs a).2).2.1) (((F_newName f n rs a).2).2.2.1) (((F_newName f n rs a).2).2.2.2)) ++ (aWd γ ab a0 a1 a2 a3 a4 a5 a6 a7 a))) := by
  refine k_ofW (by decide) (Nat.le_of_ble_eq_true rfl) ?_
  intro p9 e s m below meth c A ls hC hr hlocks hname hw hl
  have hx := hC.1
  have hb := hC.2.1
  have hl : lv_has ls 3 [(0, .ref rr)] := hl
  have hT : (a.2.2.2.2.2.2.2.1) ≤ 8 := hA.1
  have hQ : (a.2.2.2.2.2.2.2.2.1) ≤ 5 := hA.2.1
  have hE9 : (a.2.2.2.2.2.2.2.2.2.2.2.2.2.1) ≤ 1000 := hA.2.2
  refine lv_aload_n hx hb dX5_newName_0 rfl (lv_at hl 0 rfl) ?_
  refine fg_RX5_15 hC hw 0 rfl rfl dX5_newName_1 ?_
  refine fg_RX5_254 hC hw 1 rfl rfl dX5_newName_4 ?_
  refine lv_lstore_n (lv' := [(1, .long (rs.2.2.2)), (0, .ref rr)]) hx hb dX5_newName_7 rfl hl (by decide) rfl (fun ls hl => ?_)
  refine lv_aload_n hx hb dX5_newName_8 rfl (lv_at hl 1 rfl) ?_
  refine fg_RX5_15 hC hw 0 rfl rfl dX5_newName_9 ?_
  refine fg_RX5_36 hC hw 1 rfl rfl dX5_newName_12 ?_
  refine k_wordN hC hw (k_zw hC).2.2.1 (tw_lt) nw_1833 dX5_newName_15 ?_
  refine lv_if_ne (tgt := 29) hx hb dX5_newName_18 (by decide) (fun c_94 => ?_) (fun c_94 => ?_)
  · refine lv_aload_n hx hb dX5_newName_29 rfl (lv_at hl 1 rfl) ?_
    refine fg_RX5_19 hC hw 0 rfl rfl dX5_newName_30 ?_
    refine lv_lload_n hx hb dX5_newName_33 rfl (lv_at hl 0 rfl) ?_
    refine k_V (wr := ([(rr, .inr (5, [.ref h, .ref rl, .ref ab, .int mn, .int (rs.1)]))] ++ (tWd γ h hg n f (rs.2.1) (rs.2.2.1) (rs.2.2.2)))) 1 gw_502 gw_503 gw_504 gw_13 gw_505 hd_X0_thoughtNamed hC hw (c_thoughtNamed γ l ab a0 a1 a2 a3 a4 a5 a6 a7 a (rs.2.2.2) hA) ⟨by decide, by decide⟩ ⟨by decide, by decide⟩ hl.1 rfl 3 rfl rfl rfl (Nat.le_of_ble_eq_true rfl) [3, 4, 5, 6, 7, 8, 9, 10] [0, 1, 2] rfl rfl rfl rfl (by decide) dX5_newName_34 (fun r w1 H locs hq hw => ?_)
    obtain ⟨rfl, rfl⟩ := hq
    have hw : kW γ A ([(rr, .inr (5, [.ref h, .ref rl, .ref ab, .int mn, .int (rs.1)]))] ++ (tWd γ h hg n f (rs.2.1) (rs.2.2.1) (rs.2.2.2)) ++ (aWd γ ab a0 a1 a2 a3 a4 a5 a6 a7 a)) s H locs := hw
    refine W.eq (g2 := F0 m 37 ls [.int (F_thoughtNamed a (rs.2.2.2))]) rfl ?_
    refine lv_iconst (v := (-1)) hx hb dX5_newName_37 (by decide) ?_
    refine lv_icmp_ne (tgt := 53) hx hb dX5_newName_38 (by decide) (fun c_95 => ?_) (fun c_95 => ?_)
    · refine lv_aload_n hx hb dX5_newName_53 rfl (lv_at hl 1 rfl) ?_
      refine lv_iconst (v := 3) hx hb dX5_newName_54 (by decide) ?_
      refine k_V (wr := (aWd γ ab a0 a1 a2 a3 a4 a5 a6 a7 a)) 1 gw_493 gw_495 gp_5 gw_14 gw_496 hd_X5_fail hC hw (c_fail γ l rr rl ab mn h hg n rs f 3 hn hok) ⟨by decide, by decide⟩ ⟨by decide, by decide⟩ hl.1 rfl 0 rfl rfl rfl (Nat.le_of_ble_eq_true rfl) [0, 1, 2] [3, 4, 5, 6, 7, 8, 9, 10] rfl rfl rfl rfl (by decide) dX5_newName_55 (fun r w1 H locs hq hw => ?_)
      obtain ⟨rfl, rfl⟩ := hq
      have hw : kW γ A ((aWd γ ab a0 a1 a2 a3 a4 a5 a6 a7 a) ++ [(rr, .inr (5, [.ref h, .ref rl, .ref ab, .int mn, .int ((F_fail f n rs 3).1)]))] ++ (tWd γ h hg n f ((F_fail f n rs 3).2.1) ((F_fail f n rs 3).2.2.1) ((F_fail f n rs 3).2.2.2))) s H locs := hw
      refine W.eq (g2 := F0 m 58 ls []) rfl ?_
      refine lv_aload_n hx hb dX5_newName_58 rfl (lv_at hl 1 rfl) ?_
      refine k_V (wr := (aWd γ ab a0 a1 a2 a3 a4 a5 a6 a7 a)) 0 gw_513 gw_515 gp_7 gw_14 gw_516 hd_X5_passUnlessFault hC hw (c_passUF γ l rr rl ab mn h hg n (F_fail f n rs 3) f hn hok) ⟨by decide, by decide⟩ ⟨by decide, by decide⟩ hl.1 rfl 8 rfl rfl rfl (Nat.le_of_ble_eq_true rfl) [8, 9, 10] [0, 1, 2, 3, 4, 5, 6, 7] rfl rfl rfl rfl (by decide) dX5_newName_59 (fun r w1 H locs hq hw => ?_)
      obtain ⟨rfl, rfl⟩ := hq
      have hw : kW γ A ((aWd γ ab a0 a1 a2 a3 a4 a5 a6 a7 a) ++ [(rr, .inr (5, [.ref h, .ref rl, .ref ab, .int mn, .int ((F_passUF f n (F_fail f n rs 3)).1)]))] ++ (tWd γ h hg n f ((F_passUF f n (F_fail f n rs 3)).2.1) ((F_passUF f n (F_fail f n rs 3)).2.2.1) ((F_passUF f n (F_fail f n rs 3)).2.2.2))) s H locs := hw
      refine W.eq (g2 := F0 m 62 ls []) rfl ?_
      refine lv_lload_n hx hb dX5_newName_62 rfl (lv_at hl 0 rfl) ?_
      have hE : (F_newName f n rs a) = ((rs.2.2.2), (F_passUF f n (F_fail f n rs 3))) := by unfold F_newName; rw [if_neg c_94, if_neg c_95]
      have hw : kW γ A ((aWd γ ab a0 a1 a2 a3 a4 a5 a6 a7 a) ++ [(rr, .inr (5, [.ref h, .ref rl, .ref ab, .int mn, .int (((F_newName f n rs a).2).1)]))] ++ (tWd γ h hg n f (((F_newName f n rs a).2).2.1) (((F_newName f n rs a).2).2.2.1) (((F_newName f n rs a).2).2.2.2))) s H locs := by first | (rw [hE]; exact hw) | exact hw
      exact k_lret hC hr hlocks hw [8, 9, 10, 0, 1, 2, 3, 4, 5, 6, 7] rfl rfl ⟨by rw [hE], rfl⟩ (by decide) (by decide) dX5_newName_63
    · refine lv_aload_n hx hb dX5_newName_41 rfl (lv_at hl 1 rfl) ?_
      refine fg_RX5_19 hC hw 0 rfl rfl dX5_newName_42 ?_
      refine lv_lload_n hx hb dX5_newName_45 rfl (lv_at hl 0 rfl) ?_
      refine k_V (wr := ([(rr, .inr (5, [.ref h, .ref rl, .ref ab, .int mn, .int (rs.1)]))] ++ (tWd γ h hg n f (rs.2.1) (rs.2.2.1) (rs.2.2.2)))) 1 gw_509 gw_510 gw_511 gw_13 gw_512 hd_X0_tenantNamed hC hw (c_tenantNamed γ l ab a0 a1 a2 a3 a4 a5 a6 a7 a (rs.2.2.2) hA) ⟨by decide, by decide⟩ ⟨by decide, by decide⟩ hl.1 rfl 3 rfl rfl rfl (Nat.le_of_ble_eq_true rfl) [3, 4, 5, 6, 7, 8, 9, 10] [0, 1, 2] rfl rfl rfl rfl (by decide) dX5_newName_46 (fun r w1 H locs hq hw => ?_)
      obtain ⟨rfl, rfl⟩ := hq
      have hw : kW γ A ([(rr, .inr (5, [.ref h, .ref rl, .ref ab, .int mn, .int (rs.1)]))] ++ (tWd γ h hg n f (rs.2.1) (rs.2.2.1) (rs.2.2.2)) ++ (aWd γ ab a0 a1 a2 a3 a4 a5 a6 a7 a)) s H locs := hw
      refine W.eq (g2 := F0 m 49 ls [.int (F_tenantNamed a (rs.2.2.2))]) rfl ?_
      refine lv_iconst (v := (-1)) hx hb dX5_newName_49 (by decide) ?_
      refine lv_icmp_eq (tgt := 58) hx hb dX5_newName_50 (by decide) (fun c_96 => ?_) (fun c_96 => ?_)
      · refine lv_aload_n hx hb dX5_newName_58 rfl (lv_at hl 1 rfl) ?_
        refine k_V (wr := (aWd γ ab a0 a1 a2 a3 a4 a5 a6 a7 a)) 0 gw_513 gw_515 gp_7 gw_14 gw_516 hd_X5_passUnlessFault hC hw (c_passUF γ l rr rl ab mn h hg n rs f hn hok) ⟨by decide, by decide⟩ ⟨by decide, by decide⟩ hl.1 rfl 0 rfl rfl rfl (Nat.le_of_ble_eq_true rfl) [0, 1, 2] [3, 4, 5, 6, 7, 8, 9, 10] rfl rfl rfl rfl (by decide) dX5_newName_59 (fun r w1 H locs hq hw => ?_)
        obtain ⟨rfl, rfl⟩ := hq
        have hw : kW γ A ((aWd γ ab a0 a1 a2 a3 a4 a5 a6 a7 a) ++ [(rr, .inr (5, [.ref h, .ref rl, .ref ab, .int mn, .int ((F_passUF f n rs).1)]))] ++ (tWd γ h hg n f ((F_passUF f n rs).2.1) ((F_passUF f n rs).2.2.1) ((F_passUF f n rs).2.2.2))) s H locs := hw
        refine W.eq (g2 := F0 m 62 ls []) rfl ?_
        refine lv_lload_n hx hb dX5_newName_62 rfl (lv_at hl 0 rfl) ?_
        have hE : (F_newName f n rs a) = ((rs.2.2.2), (F_passUF f n rs)) := by unfold F_newName; rw [if_neg c_94, if_pos c_95, if_pos c_96]
        have hw : kW γ A ((aWd γ ab a0 a1 a2 a3 a4 a5 a6 a7 a) ++ [(rr, .inr (5, [.ref h, .ref rl, .ref ab, .int mn, .int (((F_newName f n rs a).2).1)]))] ++ (tWd γ h hg n f (((F_newName f n rs a).2).2.1) (((F_newName f n rs a).2).2.2.1) (((F_newName f n rs a).2).2.2.2))) s H locs := by first | (rw [hE]; exact hw) | exact hw
        exact k_lret hC hr hlocks hw [8, 9, 10, 0, 1, 2, 3, 4, 5, 6, 7] rfl rfl ⟨by rw [hE], rfl⟩ (by decide) (by decide) dX5_newName_63
      · refine lv_aload_n hx hb dX5_newName_53 rfl (lv_at hl 1 rfl) ?_
        refine lv_iconst (v := 3) hx hb dX5_newName_54 (by decide) ?_
        refine k_V (wr := (aWd γ ab a0 a1 a2 a3 a4 a5 a6 a7 a)) 1 gw_493 gw_495 gp_5 gw_14 gw_496 hd_X5_fail hC hw (c_fail γ l rr rl ab mn h hg n rs f 3 hn hok) ⟨by decide, by decide⟩ ⟨by decide, by decide⟩ hl.1 rfl 0 rfl rfl rfl (Nat.le_of_ble_eq_true rfl) [0, 1, 2] [3, 4, 5, 6, 7, 8, 9, 10] rfl rfl rfl rfl (by decide) dX5_newName_55 (fun r w1 H locs hq hw => ?_)
        obtain ⟨rfl, rfl⟩ := hq
        have hw : kW γ A ((aWd γ ab a0 a1 a2 a3 a4 a5 a6 a7 a) ++ [(rr, .inr (5, [.ref h, .ref rl, .ref ab, .int mn, .int ((F_fail f n rs 3).1)]))] ++ (tWd γ h hg n f ((F_fail f n rs 3).2.1) ((F_fail f n rs 3).2.2.1) ((F_fail f n rs 3).2.2.2))) s H locs := hw
        refine W.eq (g2 := F0 m 58 ls []) rfl ?_
        refine lv_aload_n hx hb dX5_newName_58 rfl (lv_at hl 1 rfl) ?_
        refine k_V (wr := (aWd γ ab a0 a1 a2 a3 a4 a5 a6 a7 a)) 0 gw_513 gw_515 gp_7 gw_14 gw_516 hd_X5_passUnlessFault hC hw (c_passUF γ l rr rl ab mn h hg n (F_fail f n rs 3) f hn hok) ⟨by decide, by decide⟩ ⟨by decide, by decide⟩ hl.1 rfl 8 rfl rfl rfl (Nat.le_of_ble_eq_true rfl) [8, 9, 10] [0, 1, 2, 3, 4, 5, 6, 7] rfl rfl rfl rfl (by decide) dX5_newName_59 (fun r w1 H locs hq hw => ?_)
        obtain ⟨rfl, rfl⟩ := hq
        have hw : kW γ A ((aWd γ ab a0 a1 a2 a3 a4 a5 a6 a7 a) ++ [(rr, .inr (5, [.ref h, .ref rl, .ref ab, .int mn, .int ((F_passUF f n (F_fail f n rs 3)).1)]))] ++ (tWd γ h hg n f ((F_passUF f n (F_fail f n rs 3)).2.1) ((F_passUF f n (F_fail f n rs 3)).2.2.1) ((F_passUF f n (F_fail f n rs 3)).2.2.2))) s H locs := hw
        refine W.eq (g2 := F0 m 62 ls []) rfl ?_
        refine lv_lload_n hx hb dX5_newName_62 rfl (lv_at hl 0 rfl) ?_
        have hE : (F_newName f n rs a) = ((rs.2.2.2), (F_passUF f n (F_fail f n rs 3))) := by unfold F_newName; rw [if_neg c_94, if_pos c_95, if_neg c_96]
        have hw : kW γ A ((aWd γ ab a0 a1 a2 a3 a4 a5 a6 a7 a) ++ [(rr, .inr (5, [.ref h, .ref rl, .ref ab, .int mn, .int (((F_newName f n rs a).2).1)]))] ++ (tWd γ h hg n f (((F_newName f n rs a).2).2.1) (((F_newName f n rs a).2).2.2.1) (((F_newName f n rs a).2).2.2.2))) s H locs := by first | (rw [hE]; exact hw) | exact hw
        exact k_lret hC hr hlocks hw [8, 9, 10, 0, 1, 2, 3, 4, 5, 6, 7] rfl rfl ⟨by rw [hE], rfl⟩ (by decide) (by decide) dX5_newName_63
  · refine lv_aload_n hx hb dX5_newName_21 rfl (lv_at hl 1 rfl) ?_
    refine lv_iconst (v := 1) hx hb dX5_newName_22 (by decide) ?_
    refine k_V (wr := (aWd γ ab a0 a1 a2 a3 a4 a5 a6 a7 a)) 1 gw_493 gw_495 gp_5 gw_14 gw_496 hd_X5_fail hC hw (c_fail γ l rr rl ab mn h hg n rs f 1 hn hok) ⟨by decide, by decide⟩ ⟨by decide, by decide⟩ hl.1 rfl 0 rfl rfl rfl (Nat.le_of_ble_eq_true rfl) [0, 1, 2] [3, 4, 5, 6, 7, 8, 9, 10] rfl rfl rfl rfl (by decide) dX5_newName_23 (fun r w1 H locs hq hw => ?_)
    obtain ⟨rfl, rfl⟩ := hq
    have hw : kW γ A ((aWd γ ab a0 a1 a2 a3 a4 a5 a6 a7 a) ++ [(rr, .inr (5, [.ref h, .ref rl, .ref ab, .int mn, .int ((F_fail f n rs 1).1)]))] ++ (tWd γ h hg n f ((F_fail f n rs 1).2.1) ((F_fail f n rs 1).2.2.1) ((F_fail f n rs 1).2.2.2))) s H locs := hw
    refine W.eq (g2 := F0 m 26 ls []) rfl ?_
    refine lv_goto (tgt := 58) hx hb dX5_newName_26 (by decide) ?_
    refine lv_aload_n hx hb dX5_newName_58 rfl (lv_at hl 1 rfl) ?_
    refine k_V (wr := (aWd γ ab a0 a1 a2 a3 a4 a5 a6 a7 a)) 0 gw_513 gw_515 gp_7 gw_14 gw_516 hd_X5_passUnlessFault hC hw (c_passUF γ l rr rl ab mn h hg n (F_fail f n rs 1) f hn hok) ⟨by decide, by decide⟩ ⟨by decide, by decide⟩ hl.1 rfl 8 rfl rfl rfl (Nat.le_of_ble_eq_true rfl) [8, 9, 10] [0, 1, 2, 3, 4, 5, 6, 7] rfl rfl rfl rfl (by decide) dX5_newName_59 (fun r w1 H locs hq hw => ?_)
    obtain ⟨rfl, rfl⟩ := hq
    have hw : kW γ A ((aWd γ ab a0 a1 a2 a3 a4 a5 a6 a7 a) ++ [(rr, .inr (5, [.ref h, .ref rl, .ref ab, .int mn, .int ((F_passUF f n (F_fail f n rs 1)).1)]))] ++ (tWd γ h hg n f ((F_passUF f n (F_fail f n rs 1)).2.1) ((F_passUF f n (F_fail f n rs 1)).2.2.1) ((F_passUF f n (F_fail f n rs 1)).2.2.2))) s H locs := hw
    refine W.eq (g2 := F0 m 62 ls []) rfl ?_
    refine lv_lload_n hx hb dX5_newName_62 rfl (lv_at hl 0 rfl) ?_
    have hE : (F_newName f n rs a) = ((rs.2.2.2), (F_passUF f n (F_fail f n rs 1))) := by unfold F_newName; rw [if_pos c_94]
    have hw : kW γ A ((aWd γ ab a0 a1 a2 a3 a4 a5 a6 a7 a) ++ [(rr, .inr (5, [.ref h, .ref rl, .ref ab, .int mn, .int (((F_newName f n rs a).2).1)]))] ++ (tWd γ h hg n f (((F_newName f n rs a).2).2.1) (((F_newName f n rs a).2).2.2.1) (((F_newName f n rs a).2).2.2.2))) s H locs := by first | (rw [hE]; exact hw) | exact hw
    exact k_lret hC hr hlocks hw [8, 9, 10, 0, 1, 2, 3, 4, 5, 6, 7] rfl rfl ⟨by rw [hE], rfl⟩ (by decide) (by decide) dX5_newName_63

def F_thoughtHere (f : Nat → Int32) (n : Nat) (rs : rRS) (a : aAS) : Int32 × rRS :=
  (((F_foundHere f n rs (F_thoughtNamed a (rs.2.2.2))).1), ((F_foundHere f n rs (F_thoughtNamed a (rs.2.2.2))).2))
set_option maxHeartbeats 4000000 in
set_option maxRecDepth 100000 in
theorem c_thoughtHere (γ : kΓ) (l : Launch) (rr : Nat) (rl : Nat) (ab : Nat) (mn : Int32) (h : Nat) (hg : Nat) (n : Nat) (rs : rRS) (f : Nat → Int32) (a0 : Nat) (a1 : Nat) (a2 : Nat) (a3 : Nat) (a4 : Nat) (a5 : Nat) (a6 : Nat) (a7 : Nat) (a : aAS) (hn : n ≤ 1000) (hok : ∀ k, k < n → kok (f k) = true) (hA : aOK a) : kM γ l yX5_thoughtHere cX5_thoughtHere 1 ((some .int)) ({ frames := 2, cells := 0, slots := 0, locals := 46 } : Room) [.ref rr] ([(rr, .inr (5, [.ref h, .ref rl, .ref ab, .int mn, .int (rs.1)]))] ++ (tWd γ h hg n f (rs.2.1) (rs.2.2.1) (rs.2.2.2)) ++ (aWd γ ab a0 a1 a2 a3 a4 a5 a6 a7 a)) (fun r w1 => r = some (.int ((F_thoughtHere f n rs a).1)) ∧ w1 = ([(rr, .inr (5, [.ref h, .ref rl, .ref ab, .int mn, .int (((F_thoughtHere f n rs a).2).1)]))] ++ (tWd γ h hg n f (((F_thoughtHere f n rs a).2).2.1) (((F_thoughtHere f n rs a).2).2.2.1) (((F_thoughtHere f n rs a).2).2.2.2)) ++ (aWd γ ab a0 a1 a2 a3 a4 a5 a6 a7 a))) := by
  refine k_ofW (by decide) (Nat.le_of_ble_eq_true rfl) ?_
  intro p9 e s m below meth c A ls hC hr hlocks hname hw hl
  have hx := hC.1
  have hb := hC.2.1
  have hl : lv_has ls 1 [(0, .ref rr)] := hl
  have hT : (a.2.2.2.2.2.2.2.1) ≤ 8 := hA.1
  have hQ : (a.2.2.2.2.2.2.2.2.1) ≤ 5 := hA.2.1
  have hE9 : (a.2.2.2.2.2.2.2.2.2.2.2.2.2.1) ≤ 1000 := hA.2.2
  refine lv_aload_n hx hb dX5_thoughtHere_0 rfl (lv_at hl 0 rfl) ?_
  refine lv_aload_n hx hb dX5_thoughtHere_1 rfl (lv_at hl 0 rfl) ?_
  refine fg_RX5_19 hC hw 0 rfl rfl dX5_thoughtHere_2 ?_
  refine lv_aload_n hx hb dX5_thoughtHere_5 rfl (lv_at hl 0 rfl) ?_
  refine fg_RX5_15 hC hw 0 rfl rfl dX5_thoughtHere_6 ?_
  refine fg_RX5_254 hC hw 1 rfl rfl dX5_thoughtHere_9 ?_
  refine k_V (wr := ([(rr, .inr (5, [.ref h, .ref rl, .ref ab, .int mn, .int (rs.1)]))] ++ (tWd γ h hg n f (rs.2.1) (rs.2.2.1) (rs.2.2.2)))) 1 gw_502 gw_503 gw_504 gw_13 gw_505 hd_X0_thoughtNamed hC hw (c_thoughtNamed γ l ab a0 a1 a2 a3 a4 a5 a6 a7 a (rs.2.2.2) hA) ⟨by decide, by decide⟩ ⟨by decide, by decide⟩ hl.1 rfl 3 rfl rfl rfl (Nat.le_of_ble_eq_true rfl) [3, 4, 5, 6, 7, 8, 9, 10] [0, 1, 2] rfl rfl rfl rfl (by decide) dX5_thoughtHere_12 (fun r w1 H locs hq hw => ?_)
  obtain ⟨rfl, rfl⟩ := hq
  have hw : kW γ A ([(rr, .inr (5, [.ref h, .ref rl, .ref ab, .int mn, .int (rs.1)]))] ++ (tWd γ h hg n f (rs.2.1) (rs.2.2.1) (rs.2.2.2)) ++ (aWd γ ab a0 a1 a2 a3 a4 a5 a6 a7 a)) s H locs := hw
  refine W.eq (g2 := F0 m 15 ls [.int (F_thoughtNamed a (rs.2.2.2)), .ref rr]) rfl ?_
  refine k_V (wr := (aWd γ ab a0 a1 a2 a3 a4 a5 a6 a7 a)) 1 gw_547 gw_549 gp_13 gw_14 gw_550 hd_X5_foundHere hC hw (c_foundHere γ l rr rl ab mn h hg n rs f (F_thoughtNamed a (rs.2.2.2)) hn hok) ⟨by decide, by decide⟩ ⟨by decide, by decide⟩ hl.1 rfl 0 rfl rfl rfl (Nat.le_of_ble_eq_true rfl) [0, 1, 2] [3, 4, 5, 6, 7, 8, 9, 10] rfl rfl rfl rfl (by decide) dX5_thoughtHere_15 (fun r w1 H locs hq hw => ?_)
  obtain ⟨rfl, rfl⟩ := hq
  have hw : kW γ A ((aWd γ ab a0 a1 a2 a3 a4 a5 a6 a7 a) ++ [(rr, .inr (5, [.ref h, .ref rl, .ref ab, .int mn, .int (((F_foundHere f n rs (F_thoughtNamed a (rs.2.2.2))).2).1)]))] ++ (tWd γ h hg n f (((F_foundHere f n rs (F_thoughtNamed a (rs.2.2.2))).2).2.1) (((F_foundHere f n rs (F_thoughtNamed a (rs.2.2.2))).2).2.2.1) (((F_foundHere f n rs (F_thoughtNamed a (rs.2.2.2))).2).2.2.2))) s H locs := hw
  refine W.eq (g2 := F0 m 18 ls [.int ((F_foundHere f n rs (F_thoughtNamed a (rs.2.2.2))).1)]) rfl ?_
  have hE : (F_thoughtHere f n rs a) = (((F_foundHere f n rs (F_thoughtNamed a (rs.2.2.2))).1), ((F_foundHere f n rs (F_thoughtNamed a (rs.2.2.2))).2)) := by unfold F_thoughtHere; rfl
  have hw : kW γ A ((aWd γ ab a0 a1 a2 a3 a4 a5 a6 a7 a) ++ [(rr, .inr (5, [.ref h, .ref rl, .ref ab, .int mn, .int (((F_thoughtHere f n rs a).2).1)]))] ++ (tWd γ h hg n f (((F_thoughtHere f n rs a).2).2.1) (((F_thoughtHere f n rs a).2).2.2.1) (((F_thoughtHere f n rs a).2).2.2.2))) s H locs := by first | (rw [hE]; exact hw) | exact hw
  exact k_iret hC hr hlocks hw [8, 9, 10, 0, 1, 2, 3, 4, 5, 6, 7] rfl rfl ⟨by rw [hE], rfl⟩ (by decide) (by decide) dX5_thoughtHere_18

def F_tenantHere (f : Nat → Int32) (n : Nat) (rs : rRS) (a : aAS) : Int32 × rRS :=
  (((F_foundHere f n rs (F_tenantNamed a (rs.2.2.2))).1), ((F_foundHere f n rs (F_tenantNamed a (rs.2.2.2))).2))
set_option maxHeartbeats 4000000 in
set_option maxRecDepth 100000 in
theorem c_tenantHere (γ : kΓ) (l : Launch) (rr : Nat) (rl : Nat) (ab : Nat) (mn : Int32) (h : Nat) (hg : Nat) (n : Nat) (rs : rRS) (f : Nat → Int32) (a0 : Nat) (a1 : Nat) (a2 : Nat) (a3 : Nat) (a4 : Nat) (a5 : Nat) (a6 : Nat) (a7 : Nat) (a : aAS) (hn : n ≤ 1000) (hok : ∀ k, k < n → kok (f k) = true) (hA : aOK a) : kM γ l yX5_tenantHere cX5_tenantHere 1 ((some .int)) ({ frames := 2, cells := 0, slots := 0, locals := 46 } : Room) [.ref rr] ([(rr, .inr (5, [.ref h, .ref rl, .ref ab, .int mn, .int (rs.1)]))] ++ (tWd γ h hg n f (rs.2.1) (rs.2.2.1) (rs.2.2.2)) ++ (aWd γ ab a0 a1 a2 a3 a4 a5 a6 a7 a)) (fun r w1 => r = some (.int ((F_tenantHere f n rs a).1)) ∧ w1 = ([(rr, .inr (5, [.ref h, .ref rl, .ref ab, .int mn, .int (((F_tenantHere f n rs a).2).1)]))] ++ (tWd γ h hg n f (((F_tenantHere f n rs a).2).2.1) (((F_tenantHere f n rs a).2).2.2.1) (((F_tenantHere f n rs a).2).2.2.2)) ++ (aWd γ ab a0 a1 a2 a3 a4 a5 a6 a7 a))) := by
  refine k_ofW (by decide) (Nat.le_of_ble_eq_true rfl) ?_
  intro p9 e s m below meth c A ls hC hr hlocks hname hw hl
  have hx := hC.1
  have hb := hC.2.1
  have hl : lv_has ls 1 [(0, .ref rr)] := hl
  have hT : (a.2.2.2.2.2.2.2.1) ≤ 8 := hA.1
  have hQ : (a.2.2.2.2.2.2.2.2.1) ≤ 5 := hA.2.1
  have hE9 : (a.2.2.2.2.2.2.2.2.2.2.2.2.2.1) ≤ 1000 := hA.2.2
  refine lv_aload_n hx hb dX5_tenantHere_0 rfl (lv_at hl 0 rfl) ?_
  refine lv_aload_n hx hb dX5_tenantHere_1 rfl (lv_at hl 0 rfl) ?_
  refine fg_RX5_19 hC hw 0 rfl rfl dX5_tenantHere_2 ?_
  refine lv_aload_n hx hb dX5_tenantHere_5 rfl (lv_at hl 0 rfl) ?_
  refine fg_RX5_15 hC hw 0 rfl rfl dX5_tenantHere_6 ?_
  refine fg_RX5_254 hC hw 1 rfl rfl dX5_tenantHere_9 ?_
  refine k_V (wr := ([(rr, .inr (5, [.ref h, .ref rl, .ref ab, .int mn, .int (rs.1)]))] ++ (tWd γ h hg n f (rs.2.1) (rs.2.2.1) (rs.2.2.2)))) 1 gw_509 gw_510 gw_511 gw_13 gw_512 hd_X0_tenantNamed hC hw (c_tenantNamed γ l ab a0 a1 a2 a3 a4 a5 a6 a7 a (rs.2.2.2) hA) ⟨by decide, by decide⟩ ⟨by decide, by decide⟩ hl.1 rfl 3 rfl rfl rfl (Nat.le_of_ble_eq_true rfl) [3, 4, 5, 6, 7, 8, 9, 10] [0, 1, 2] rfl rfl rfl rfl (by decide) dX5_tenantHere_12 (fun r w1 H locs hq hw => ?_)
  obtain ⟨rfl, rfl⟩ := hq
  have hw : kW γ A ([(rr, .inr (5, [.ref h, .ref rl, .ref ab, .int mn, .int (rs.1)]))] ++ (tWd γ h hg n f (rs.2.1) (rs.2.2.1) (rs.2.2.2)) ++ (aWd γ ab a0 a1 a2 a3 a4 a5 a6 a7 a)) s H locs := hw
  refine W.eq (g2 := F0 m 15 ls [.int (F_tenantNamed a (rs.2.2.2)), .ref rr]) rfl ?_
  refine k_V (wr := (aWd γ ab a0 a1 a2 a3 a4 a5 a6 a7 a)) 1 gw_547 gw_549 gp_13 gw_14 gw_550 hd_X5_foundHere hC hw (c_foundHere γ l rr rl ab mn h hg n rs f (F_tenantNamed a (rs.2.2.2)) hn hok) ⟨by decide, by decide⟩ ⟨by decide, by decide⟩ hl.1 rfl 0 rfl rfl rfl (Nat.le_of_ble_eq_true rfl) [0, 1, 2] [3, 4, 5, 6, 7, 8, 9, 10] rfl rfl rfl rfl (by decide) dX5_tenantHere_15 (fun r w1 H locs hq hw => ?_)
  obtain ⟨rfl, rfl⟩ := hq
  have hw : kW γ A ((aWd γ ab a0 a1 a2 a3 a4 a5 a6 a7 a) ++ [(rr, .inr (5, [.ref h, .ref rl, .ref ab, .int mn, .int (((F_foundHere f n rs (F_tenantNamed a (rs.2.2.2))).2).1)]))] ++ (tWd γ h hg n f (((F_foundHere f n rs (F_tenantNamed a (rs.2.2.2))).2).2.1) (((F_foundHere f n rs (F_tenantNamed a (rs.2.2.2))).2).2.2.1) (((F_foundHere f n rs (F_tenantNamed a (rs.2.2.2))).2).2.2.2))) s H locs := hw
  refine W.eq (g2 := F0 m 18 ls [.int ((F_foundHere f n rs (F_tenantNamed a (rs.2.2.2))).1)]) rfl ?_
  have hE : (F_tenantHere f n rs a) = (((F_foundHere f n rs (F_tenantNamed a (rs.2.2.2))).1), ((F_foundHere f n rs (F_tenantNamed a (rs.2.2.2))).2)) := by unfold F_tenantHere; rfl
  have hw : kW γ A ((aWd γ ab a0 a1 a2 a3 a4 a5 a6 a7 a) ++ [(rr, .inr (5, [.ref h, .ref rl, .ref ab, .int mn, .int (((F_tenantHere f n rs a).2).1)]))] ++ (tWd γ h hg n f (((F_tenantHere f n rs a).2).2.1) (((F_tenantHere f n rs a).2).2.2.1) (((F_tenantHere f n rs a).2).2.2.2))) s H locs := by first | (rw [hE]; exact hw) | exact hw
  exact k_iret hC hr hlocks hw [8, 9, 10, 0, 1, 2, 3, 4, 5, 6, 7] rfl rfl ⟨by rw [hE], rfl⟩ (by decide) (by decide) dX5_tenantHere_18

def F_readThought (f : Nat → Int32) (n : Nat) (rs : rRS) (a : aAS) : rRS × aAS :=
  if (nI (a.2.2.2.2.2.2.2.1)) < 8 then (if ((F_passSign f n ((F_numberWithin f n (F_passWord f n ((F_numberWithin f n (F_passWord f n ((F_newName f n (av f n rs) a).2) 3) 0 20).2) 4) 0 6).2) 59).1) = 0 then ((F_passSign f n ((F_numberWithin f n (F_passWord f n ((F_numberWithin f n (F_passWord f n ((F_newName f n (av f n rs) a).2) 3) 0 20).2) 4) 0 6).2) 59), (F_addThought a ((F_newName f n (av f n rs) a).1) ((F_numberWithin f n (F_passWord f n ((F_newName f n (av f n rs) a).2) 3) 0 20).1) ((F_numberWithin f n (F_passWord f n ((F_numberWithin f n (F_passWord f n ((F_newName f n (av f n rs) a).2) 3) 0 20).2) 4) 0 6).1))) else ((F_passSign f n ((F_numberWithin f n (F_passWord f n ((F_numberWithin f n (F_passWord f n ((F_newName f n (av f n rs) a).2) 3) 0 20).2) 4) 0 6).2) 59), a)) else ((F_fail f n rs 5), a)
set_option maxHeartbeats 4000000 in
set_option maxRecDepth 100000 in
theorem c_readThought (γ : kΓ) (l : Launch) (rr : Nat) (rl : Nat) (ab : Nat) (mn : Int32) (h : Nat) (hg : Nat) (n : Nat) (rs : rRS) (f : Nat → Int32) (a0 : Nat) (a1 : Nat) (a2 : Nat) (a3 : Nat) (a4 : Nat) (a5 : Nat) (a6 : Nat) (a7 : Nat) (a : aAS) (hn : n ≤ 1000) (hok : ∀ k, k < n → kok (f k) = true) (hA : aOK a) : kM γ l yX5_readThought cX5_readThought 5 none ({ frames := 4, cells := 0, slots := 0, locals := 104 } : Room) [.ref rr] ([(rr, .inr (5, [.ref h, .ref rl, .ref ab, .int mn, .int (rs.1)]))] ++ (tWd γ h hg n f (rs.2.1) (rs.2.2.1) (rs.2.2.2)) ++ (aWd γ ab a0 a1 a2 a3 a4 a5 a6 a7 a)) (fun r w1 => r = none ∧ w1 = ([(rr, .inr (5, [.ref h, .ref rl, .ref ab, .int mn, .int (((F_readThought f n rs a).1).1)]))] ++ (tWd γ h hg n f (((F_readThought f n rs a).1).2.1) (((F_readThought f n rs a).1).2.2.1) (((F_readThought f n rs a).1).2.2.2)) ++ (aWd γ ab a0 a1 a2 a3 a4 a5 a6 a7 ((F_readThought f n rs a).2)))) := by
  refine k_ofW (by decide) (Nat.le_of_ble_eq_true rfl) ?_
  intro p9 e s m below meth c A ls hC hr hlocks hname hw hl
  have hx := hC.1
  have hb := hC.2.1
  have hl : lv_has ls 5 [(0, .ref rr)] := hl
  have hT : (a.2.2.2.2.2.2.2.1) ≤ 8 := hA.1
  have hQ : (a.2.2.2.2.2.2.2.2.1) ≤ 5 := hA.2.1
  have hE9 : (a.2.2.2.2.2.2.2.2.2.2.2.2.2.1) ≤ 1000 := hA.2.2
  refine lv_aload_n hx hb dX5_readThought_0 rfl (lv_at hl 0 rfl) ?_
  refine fg_RX5_19 hC hw 0 rfl rfl dX5_readThought_1 ?_
  refine fg_RX5_122 hC hw 3 rfl rfl dX5_readThought_4 ?_
  refine lv_bipush (v := 8) hx hb dX5_readThought_7 (by decide) ?_
  refine lv_icmp_lt (tgt := 18) hx hb dX5_readThought_9 (by decide) (fun c_103 => ?_) (fun c_103 => ?_)
  · refine lv_aload_n hx hb dX5_readThought_18 rfl (lv_at hl 0 rfl) ?_
    refine fg_RX5_15 hC hw 0 rfl rfl dX5_readThought_19 ?_
    refine k_V (wr := ([(rr, .inr (5, [.ref h, .ref rl, .ref ab, .int mn, .int (rs.1)]))] ++ (aWd γ ab a0 a1 a2 a3 a4 a5 a6 a7 a))) 0 gw_497 gw_461 gw_462 gw_2 gw_463 hd_X8_advance hC hw (c_av γ l h hg n rs f hn hok) ⟨by decide, by decide⟩ ⟨by decide, by decide⟩ hl.1 rfl 1 rfl rfl rfl (Nat.le_of_ble_eq_true rfl) [1, 2] [0, 3, 4, 5, 6, 7, 8, 9, 10] rfl rfl rfl rfl (by decide) dX5_readThought_22 (fun r w1 H locs hq hw => ?_)
    obtain ⟨rfl, rfl⟩ := hq
    have hw : kW γ A ([(rr, .inr (5, [.ref h, .ref rl, .ref ab, .int mn, .int (rs.1)]))] ++ (aWd γ ab a0 a1 a2 a3 a4 a5 a6 a7 a) ++ (tWd γ h hg n f ((av f n rs).2.1) ((av f n rs).2.2.1) ((av f n rs).2.2.2))) s H locs := hw
    refine W.eq (g2 := F0 m 25 ls []) rfl ?_
    refine lv_aload_n hx hb dX5_readThought_25 rfl (lv_at hl 0 rfl) ?_
    refine k_V (wr := []) 0 gw_498 gw_500 gp_6 gw_14 gw_501 hd_X5_newName hC hw (c_newName γ l rr rl ab mn h hg n (av f n rs) f a0 a1 a2 a3 a4 a5 a6 a7 a hn hok hA) ⟨by decide, by decide⟩ ⟨by decide, by decide⟩ hl.1 rfl 0 rfl rfl rfl (Nat.le_of_ble_eq_true rfl) [0, 9, 10, 1, 2, 3, 4, 5, 6, 7, 8] [] rfl rfl rfl rfl (by decide) dX5_readThought_26 (fun r w1 H locs hq hw => ?_)
    obtain ⟨rfl, rfl⟩ := hq
    have hw : kW γ A ([(rr, .inr (5, [.ref h, .ref rl, .ref ab, .int mn, .int (((F_newName f n (av f n rs) a).2).1)]))] ++ (tWd γ h hg n f (((F_newName f n (av f n rs) a).2).2.1) (((F_newName f n (av f n rs) a).2).2.2.1) (((F_newName f n (av f n rs) a).2).2.2.2)) ++ (aWd γ ab a0 a1 a2 a3 a4 a5 a6 a7 a)) s H locs := hw
    refine W.eq (g2 := F0 m 29 ls [.long ((F_newName f n (av f n rs) a).1)]) rfl ?_
    refine lv_lstore_n (lv' := [(1, .long ((F_newName f n (av f n rs) a).1)), (0, .ref rr)]) hx hb dX5_readThought_29 rfl hl (by decide) rfl (fun ls hl => ?_)
    refine lv_aload_n hx hb dX5_readThought_30 rfl (lv_at hl 1 rfl) ?_
    refine k_word hC hw (n := 3) (by decide) gw_517 dX5_readThought_31 ?_
    refine k_V (wr := (aWd γ ab a0 a1 a2 a3 a4 a5 a6 a7 a)) 1 gw_519 gw_521 gp_8 gw_14 gw_522 hd_X5_passWord hC hw (c_passWord γ l rr rl ab mn h hg n ((F_newName f n (av f n rs) a).2) f 3 hn hok (by decide)) ⟨by decide, by decide⟩ ⟨by decide, by decide⟩ hl.1 rfl 0 rfl rfl rfl (Nat.le_of_ble_eq_true rfl) [0, 1, 2] [3, 4, 5, 6, 7, 8, 9, 10] rfl rfl rfl rfl (by decide) dX5_readThought_34 (fun r w1 H locs hq hw => ?_)
    obtain ⟨rfl, rfl⟩ := hq
    have hw : kW γ A ((aWd γ ab a0 a1 a2 a3 a4 a5 a6 a7 a) ++ [(rr, .inr (5, [.ref h, .ref rl, .ref ab, .int mn, .int ((F_passWord f n ((F_newName f n (av f n rs) a).2) 3).1)]))] ++ (tWd γ h hg n f ((F_passWord f n ((F_newName f n (av f n rs) a).2) 3).2.1) ((F_passWord f n ((F_newName f n (av f n rs) a).2) 3).2.2.1) ((F_passWord f n ((F_newName f n (av f n rs) a).2) 3).2.2.2))) s H locs := hw
    refine W.eq (g2 := F0 m 37 ls []) rfl ?_
    refine lv_aload_n hx hb dX5_readThought_37 rfl (lv_at hl 1 rfl) ?_
    refine lv_iconst (v := 0) hx hb dX5_readThought_38 (by decide) ?_
    refine lv_bipush (v := 20) hx hb dX5_readThought_39 (by decide) ?_
    refine k_V (wr := (aWd γ ab a0 a1 a2 a3 a4 a5 a6 a7 a)) 2 gw_523 gw_525 gp_9 gw_14 gw_526 hd_X5_numberWithin hC hw (c_numberWithin γ l rr rl ab mn h hg n (F_passWord f n ((F_newName f n (av f n rs) a).2) 3) f 0 20 hn hok) ⟨by decide, by decide⟩ ⟨by decide, by decide⟩ hl.1 rfl 8 rfl rfl rfl (Nat.le_of_ble_eq_true rfl) [8, 9, 10] [0, 1, 2, 3, 4, 5, 6, 7] rfl rfl rfl rfl (by decide) dX5_readThought_41 (fun r w1 H locs hq hw => ?_)
    obtain ⟨rfl, rfl⟩ := hq
    have hw : kW γ A ((aWd γ ab a0 a1 a2 a3 a4 a5 a6 a7 a) ++ [(rr, .inr (5, [.ref h, .ref rl, .ref ab, .int mn, .int (((F_numberWithin f n (F_passWord f n ((F_newName f n (av f n rs) a).2) 3) 0 20).2).1)]))] ++ (tWd γ h hg n f (((F_numberWithin f n (F_passWord f n ((F_newName f n (av f n rs) a).2) 3) 0 20).2).2.1) (((F_numberWithin f n (F_passWord f n ((F_newName f n (av f n rs) a).2) 3) 0 20).2).2.2.1) (((F_numberWithin f n (F_passWord f n ((F_newName f n (av f n rs) a).2) 3) 0 20).2).2.2.2))) s H locs := hw
    refine W.eq (g2 := F0 m 44 ls [.int ((F_numberWithin f n (F_passWord f n ((F_newName f n (av f n rs) a).2) 3) 0 20).1)]) rfl ?_
    refine lv_istore_n (lv' := [(3, .int ((F_numberWithin f n (F_passWord f n ((F_newName f n (av f n rs) a).2) 3) 0 20).1)), (1, .long ((F_newName f n (av f n rs) a).1)), (0, .ref rr)]) hx hb dX5_readThought_44 rfl hl (by decide) rfl (fun ls hl => ?_)
    refine lv_aload_n hx hb dX5_readThought_45 rfl (lv_at hl 2 rfl) ?_
    refine k_word hC hw (n := 4) (by decide) gw_527 dX5_readThought_46 ?_
    refine k_V (wr := (aWd γ ab a0 a1 a2 a3 a4 a5 a6 a7 a)) 1 gw_519 gw_521 gp_8 gw_14 gw_522 hd_X5_passWord hC hw (c_passWord γ l rr rl ab mn h hg n ((F_numberWithin f n (F_passWord f n ((F_newName f n (av f n rs) a).2) 3) 0 20).2) f 4 hn hok (by decide)) ⟨by decide, by decide⟩ ⟨by decide, by decide⟩ hl.1 rfl 8 rfl rfl rfl (Nat.le_of_ble_eq_true rfl) [8, 9, 10] [0, 1, 2, 3, 4, 5, 6, 7] rfl rfl rfl rfl (by decide) dX5_readThought_49 (fun r w1 H locs hq hw => ?_)
    obtain ⟨rfl, rfl⟩ := hq
    have hw : kW γ A ((aWd γ ab a0 a1 a2 a3 a4 a5 a6 a7 a) ++ [(rr, .inr (5, [.ref h, .ref rl, .ref ab, .int mn, .int ((F_passWord f n ((F_numberWithin f n (F_passWord f n ((F_newName f n (av f n rs) a).2) 3) 0 20).2) 4).1)]))] ++ (tWd γ h hg n f ((F_passWord f n ((F_numberWithin f n (F_passWord f n ((F_newName f n (av f n rs) a).2) 3) 0 20).2) 4).2.1) ((F_passWord f n ((F_numberWithin f n (F_passWord f n ((F_newName f n (av f n rs) a).2) 3) 0 20).2) 4).2.2.1) ((F_passWord f n ((F_numberWithin f n (F_passWord f n ((F_newName f n (av f n rs) a).2) 3) 0 20).2) 4).2.2.2))) s H locs := hw
    refine W.eq (g2 := F0 m 52 ls []) rfl ?_
    refine lv_aload_n hx hb dX5_readThought_52 rfl (lv_at hl 2 rfl) ?_
    refine lv_iconst (v := 0) hx hb dX5_readThought_53 (by decide) ?_
    refine lv_bipush (v := 6) hx hb dX5_readThought_54 (by decide) ?_
    refine k_V (wr := (aWd γ ab a0 a1 a2 a3 a4 a5 a6 a7 a)) 2 gw_523 gw_525 gp_9 gw_14 gw_526 hd_X5_numberWithin hC hw (c_numberWithin γ l rr rl ab mn h hg n (F_passWord f n ((F_numberWithin f n (F_passWord f n ((F_newName f n (av f n rs) a).2) 3) 0 20).2) 4) f 0 6 hn hok) ⟨by decide, by decide⟩ ⟨by decide, by decide⟩ hl.1 rfl 8 rfl rfl rfl (Nat.le_of_ble_eq_true rfl) [8, 9, 10] [0, 1, 2, 3, 4, 5, 6, 7] rfl rfl rfl rfl (by decide) dX5_readThought_56 (fun r w1 H locs hq hw => ?_)
    obtain ⟨rfl, rfl⟩ := hq
    have hw : kW γ A ((aWd γ ab a0 a1 a2 a3 a4 a5 a6 a7 a) ++ [(rr, .inr (5, [.ref h, .ref rl, .ref ab, .int mn, .int (((F_numberWithin f n (F_passWord f n ((F_numberWithin f n (F_passWord f n ((F_newName f n (av f n rs) a).2) 3) 0 20).2) 4) 0 6).2).1)]))] ++ (tWd γ h hg n f (((F_numberWithin f n (F_passWord f n ((F_numberWithin f n (F_passWord f n ((F_newName f n (av f n rs) a).2) 3) 0 20).2) 4) 0 6).2).2.1) (((F_numberWithin f n (F_passWord f n ((F_numberWithin f n (F_passWord f n ((F_newName f n (av f n rs) a).2) 3) 0 20).2) 4) 0 6).2).2.2.1) (((F_numberWithin f n (F_passWord f n ((F_numberWithin f n (F_passWord f n ((F_newName f n (av f n rs) a).2) 3) 0 20).2) 4) 0 6).2).2.2.2))) s H locs := hw
    refine W.eq (g2 := F0 m 59 ls [.int ((F_numberWithin f n (F_passWord f n ((F_numberWithin f n (F_passWord f n ((F_newName f n (av f n rs) a).2) 3) 0 20).2) 4) 0 6).1)]) rfl ?_
    refine lv_istore (lv' := [(4, .int ((F_numberWithin f n (F_passWord f n ((F_numberWithin f n (F_passWord f n ((F_newName f n (av f n rs) a).2) 3) 0 20).2) 4) 0 6).1)), (3, .int ((F_numberWithin f n (F_passWord f n ((F_newName f n (av f n rs) a).2) 3) 0 20).1)), (1, .long ((F_newName f n (av f n rs) a).1)), (0, .ref rr)]) hx hb dX5_readThought_59 hl (by decide) rfl (fun ls hl => ?_)
    refine lv_aload_n hx hb dX5_readThought_61 rfl (lv_at hl 3 rfl) ?_
    refine lv_bipush (v := 59) hx hb dX5_readThought_62 (by decide) ?_
    refine k_V (wr := (aWd γ ab a0 a1 a2 a3 a4 a5 a6 a7 a)) 1 gw_529 gw_531 gp_10 gw_14 gw_532 hd_X5_passSign hC hw (c_passSign γ l rr rl ab mn h hg n ((F_numberWithin f n (F_passWord f n ((F_numberWithin f n (F_passWord f n ((F_newName f n (av f n rs) a).2) 3) 0 20).2) 4) 0 6).2) f 59 hn hok) ⟨by decide, by decide⟩ ⟨by decide, by decide⟩ hl.1 rfl 8 rfl rfl rfl (Nat.le_of_ble_eq_true rfl) [8, 9, 10] [0, 1, 2, 3, 4, 5, 6, 7] rfl rfl rfl rfl (by decide) dX5_readThought_64 (fun r w1 H locs hq hw => ?_)
    obtain ⟨rfl, rfl⟩ := hq
    have hw : kW γ A ((aWd γ ab a0 a1 a2 a3 a4 a5 a6 a7 a) ++ [(rr, .inr (5, [.ref h, .ref rl, .ref ab, .int mn, .int ((F_passSign f n ((F_numberWithin f n (F_passWord f n ((F_numberWithin f n (F_passWord f n ((F_newName f n (av f n rs) a).2) 3) 0 20).2) 4) 0 6).2) 59).1)]))] ++ (tWd γ h hg n f ((F_passSign f n ((F_numberWithin f n (F_passWord f n ((F_numberWithin f n (F_passWord f n ((F_newName f n (av f n rs) a).2) 3) 0 20).2) 4) 0 6).2) 59).2.1) ((F_passSign f n ((F_numberWithin f n (F_passWord f n ((F_numberWithin f n (F_passWord f n ((F_newName f n (av f n rs) a).2) 3) 0 20).2) 4) 0 6).2) 59).2.2.1) ((F_passSign f n ((F_numberWithin f n (F_passWord f n ((F_numberWithin f n (F_passWord f n ((F_newName f n (av f n rs) a).2) 3) 0 20).2) 4) 0 6).2) 59).2.2.2))) s H locs := hw
    refine W.eq (g2 := F0 m 67 ls []) rfl ?_
    refine lv_aload_n hx hb dX5_readThought_67 rfl (lv_at hl 3 rfl) ?_
    refine fg_RX5_91 hC hw 8 rfl rfl dX5_readThought_68 ?_
    refine lv_if_ne (tgt := 85) hx hb dX5_readThought_71 (by decide) (fun c_104 => ?_) (fun c_104 => ?_)
    · have hE : (F_readThought f n rs a) = ((F_passSign f n ((F_numberWithin f n (F_passWord f n ((F_numberWithin f n (F_passWord f n ((F_newName f n (av f n rs) a).2) 3) 0 20).2) 4) 0 6).2) 59), a) := by unfold F_readThought; rw [if_pos c_103, if_neg c_104]
      have hw : kW γ A ((aWd γ ab a0 a1 a2 a3 a4 a5 a6 a7 ((F_readThought f n rs a).2)) ++ [(rr, .inr (5, [.ref h, .ref rl, .ref ab, .int mn, .int (((F_readThought f n rs a).1).1)]))] ++ (tWd γ h hg n f (((F_readThought f n rs a).1).2.1) (((F_readThought f n rs a).1).2.2.1) (((F_readThought f n rs a).1).2.2.2))) s H locs := by first | (rw [hE]; exact hw) | exact hw
      exact k_vret hC hr hlocks hw [8, 9, 10, 0, 1, 2, 3, 4, 5, 6, 7] rfl rfl ⟨rfl, rfl⟩ (by decide) (by decide) dX5_readThought_85
    · refine lv_aload_n hx hb dX5_readThought_74 rfl (lv_at hl 3 rfl) ?_
      refine fg_RX5_19 hC hw 8 rfl rfl dX5_readThought_75 ?_
      refine lv_lload_n hx hb dX5_readThought_78 rfl (lv_at hl 2 rfl) ?_
      refine lv_iload_n hx hb dX5_readThought_79 rfl (lv_at hl 1 rfl) ?_
      refine lv_iload hx hb dX5_readThought_80 (lv_at hl 0 rfl) ?_
      refine k_V (wr := ([(rr, .inr (5, [.ref h, .ref rl, .ref ab, .int mn, .int ((F_passSign f n ((F_numberWithin f n (F_passWord f n ((F_numberWithin f n (F_passWord f n ((F_newName f n (av f n rs) a).2) 3) 0 20).2) 4) 0 6).2) 59).1)]))] ++ (tWd γ h hg n f ((F_passSign f n ((F_numberWithin f n (F_passWord f n ((F_numberWithin f n (F_passWord f n ((F_newName f n (av f n rs) a).2) 3) 0 20).2) 4) 0 6).2) 59).2.1) ((F_passSign f n ((F_numberWithin f n (F_passWord f n ((F_numberWithin f n (F_passWord f n ((F_newName f n (av f n rs) a).2) 3) 0 20).2) 4) 0 6).2) 59).2.2.1) ((F_passSign f n ((F_numberWithin f n (F_passWord f n ((F_numberWithin f n (F_passWord f n ((F_newName f n (av f n rs) a).2) 3) 0 20).2) 4) 0 6).2) 59).2.2.2)))) 3 gw_533 gw_534 gw_535 gw_13 gw_536 hd_X0_addThought hC hw (c_addThought γ l ab a0 a1 a2 a3 a4 a5 a6 a7 a ((F_newName f n (av f n rs) a).1) ((F_numberWithin f n (F_passWord f n ((F_newName f n (av f n rs) a).2) 3) 0 20).1) ((F_numberWithin f n (F_passWord f n ((F_numberWithin f n (F_passWord f n ((F_newName f n (av f n rs) a).2) 3) 0 20).2) 4) 0 6).1) hA) ⟨by decide, by decide⟩ ⟨by decide, by decide⟩ hl.1 rfl 0 rfl rfl rfl (Nat.le_of_ble_eq_true rfl) [0, 1, 2, 3, 4, 5, 6, 7] [8, 9, 10] rfl rfl rfl rfl (by decide) dX5_readThought_82 (fun r w1 H locs hq hw => ?_)
      obtain ⟨rfl, rfl⟩ := hq
      have hw : kW γ A ([(rr, .inr (5, [.ref h, .ref rl, .ref ab, .int mn, .int ((F_passSign f n ((F_numberWithin f n (F_passWord f n ((F_numberWithin f n (F_passWord f n ((F_newName f n (av f n rs) a).2) 3) 0 20).2) 4) 0 6).2) 59).1)]))] ++ (tWd γ h hg n f ((F_passSign f n ((F_numberWithin f n (F_passWord f n ((F_numberWithin f n (F_passWord f n ((F_newName f n (av f n rs) a).2) 3) 0 20).2) 4) 0 6).2) 59).2.1) ((F_passSign f n ((F_numberWithin f n (F_passWord f n ((F_numberWithin f n (F_passWord f n ((F_newName f n (av f n rs) a).2) 3) 0 20).2) 4) 0 6).2) 59).2.2.1) ((F_passSign f n ((F_numberWithin f n (F_passWord f n ((F_numberWithin f n (F_passWord f n ((F_newName f n (av f n rs) a).2) 3) 0 20).2) 4) 0 6).2) 59).2.2.2)) ++ (aWd γ ab a0 a1 a2 a3 a4 a5 a6 a7 (F_addThought a ((F_newName f n (av f n rs) a).1) ((F_numberWithin f n (F_passWord f n ((F_newName f n (av f n rs) a).2) 3) 0 20).1) ((F_numberWithin f n (F_passWord f n ((F_numberWithin f n (F_passWord f n ((F_newName f n (av f n rs) a).2) 3) 0 20).2) 4) 0 6).1)))) s H locs := hw
      refine W.eq (g2 := F0 m 85 ls []) rfl ?_
      have hE : (F_readThought f n rs a) = ((F_passSign f n ((F_numberWithin f n (F_passWord f n ((F_numberWithin f n (F_passWord f n ((F_newName f n (av f n rs) a).2) 3) 0 20).2) 4) 0 6).2) 59), (F_addThought a ((F_newName f n (av f n rs) a).1) ((F_numberWithin f n (F_passWord f n ((F_newName f n (av f n rs) a).2) 3) 0 20).1) ((F_numberWithin f n (F_passWord f n ((F_numberWithin f n (F_passWord f n ((F_newName f n (av f n rs) a).2) 3) 0 20).2) 4) 0 6).1))) := by unfold F_readThought; rw [if_pos c_103, if_pos c_104]
      have hw : kW γ A ([(rr, .inr (5, [.ref h, .ref rl, .ref ab, .int mn, .int (((F_readThought f n rs a).1).1)]))] ++ (tWd γ h hg n f (((F_readThought f n rs a).1).2.1) (((F_readThought f n rs a).1).2.2.1) (((F_readThought f n rs a).1).2.2.2)) ++ (aWd γ ab a0 a1 a2 a3 a4 a5 a6 a7 ((F_readThought f n rs a).2))) s H locs := by first | (rw [hE]; exact hw) | exact hw
      exact k_vret hC hr hlocks hw [0, 1, 2, 3, 4, 5, 6, 7, 8, 9, 10] rfl rfl ⟨rfl, rfl⟩ (by decide) (by decide) dX5_readThought_85
  · refine lv_aload_n hx hb dX5_readThought_12 rfl (lv_at hl 0 rfl) ?_
    refine lv_iconst (v := 5) hx hb dX5_readThought_13 (by decide) ?_
    refine k_V (wr := (aWd γ ab a0 a1 a2 a3 a4 a5 a6 a7 a)) 1 gw_493 gw_495 gp_5 gw_14 gw_496 hd_X5_fail hC hw (c_fail γ l rr rl ab mn h hg n rs f 5 hn hok) ⟨by decide, by decide⟩ ⟨by decide, by decide⟩ hl.1 rfl 0 rfl rfl rfl (Nat.le_of_ble_eq_true rfl) [0, 1, 2] [3, 4, 5, 6, 7, 8, 9, 10] rfl rfl rfl rfl (by decide) dX5_readThought_14 (fun r w1 H locs hq hw => ?_)
    obtain ⟨rfl, rfl⟩ := hq
    have hw : kW γ A ((aWd γ ab a0 a1 a2 a3 a4 a5 a6 a7 a) ++ [(rr, .inr (5, [.ref h, .ref rl, .ref ab, .int mn, .int ((F_fail f n rs 5).1)]))] ++ (tWd γ h hg n f ((F_fail f n rs 5).2.1) ((F_fail f n rs 5).2.2.1) ((F_fail f n rs 5).2.2.2))) s H locs := hw
    refine W.eq (g2 := F0 m 17 ls []) rfl ?_
    have hE : (F_readThought f n rs a) = ((F_fail f n rs 5), a) := by unfold F_readThought; rw [if_neg c_103]
    have hw : kW γ A ((aWd γ ab a0 a1 a2 a3 a4 a5 a6 a7 ((F_readThought f n rs a).2)) ++ [(rr, .inr (5, [.ref h, .ref rl, .ref ab, .int mn, .int (((F_readThought f n rs a).1).1)]))] ++ (tWd γ h hg n f (((F_readThought f n rs a).1).2.1) (((F_readThought f n rs a).1).2.2.1) (((F_readThought f n rs a).1).2.2.2))) s H locs := by first | (rw [hE]; exact hw) | exact hw
    exact k_vret hC hr hlocks hw [8, 9, 10, 0, 1, 2, 3, 4, 5, 6, 7] rfl rfl ⟨rfl, rfl⟩ (by decide) (by decide) dX5_readThought_17

def F_readTenant (f : Nat → Int32) (n : Nat) (rs : rRS) (a : aAS) : rRS × aAS :=
  if (nI (a.2.2.2.2.2.2.2.2.1)) < 5 then (if (F_isKind (tw f n (((F_newName f n (av f n rs) a).2).2.1))) = 0 then (if ((F_passSign f n (F_passUF f n (F_fail f n ((F_newName f n (av f n rs) a).2) 1)) 59).1) = 0 then ((F_passSign f n (F_passUF f n (F_fail f n ((F_newName f n (av f n rs) a).2) 1)) 59), (F_addTenant a ((F_newName f n (av f n rs) a).1) (kWv.getD (tw f n (((F_newName f n (av f n rs) a).2).2.1)) 0))) else ((F_passSign f n (F_passUF f n (F_fail f n ((F_newName f n (av f n rs) a).2) 1)) 59), a)) else (if ((F_passSign f n (F_passUF f n ((F_newName f n (av f n rs) a).2)) 59).1) = 0 then ((F_passSign f n (F_passUF f n ((F_newName f n (av f n rs) a).2)) 59), (F_addTenant a ((F_newName f n (av f n rs) a).1) (kWv.getD (tw f n (((F_newName f n (av f n rs) a).2).2.1)) 0))) else ((F_passSign f n (F_passUF f n ((F_newName f n (av f n rs) a).2)) 59), a))) else ((F_fail f n rs 5), a)
set_option maxHeartbeats 4000000 in
set_option maxRecDepth 100000 in
theorem c_readTenant (γ : kΓ) (l : Launch) (rr : Nat) (rl : Nat) (ab : Nat) (mn : Int32) (h : Nat) (hg : Nat) (n : Nat) (rs : rRS) (f : Nat → Int32) (a0 : Nat) (a1 : Nat) (a2 : Nat) (a3 : Nat) (a4 : Nat) (a5 : Nat) (a6 : Nat) (a7 : Nat) (a : aAS) (hn : n ≤ 1000) (hok : ∀ k, k < n → kok (f k) = true) (hA : aOK a) : kM γ l yX5_readTenant cX5_readTenant 4 none ({ frames := 4, cells := 0, slots := 0, locals := 103 } : Room) [.ref rr] ([(rr, .inr (5, [.ref h, .ref rl, .ref ab, .int mn, .int (rs.1)]))] ++ (tWd γ h hg n f (rs.2.1) (rs.2.2.1) (rs.2.2.2)) ++ (aWd γ ab a0 a1 a2 a3 a4 a5 a6 a7 a)) (fun r w1 => r = none ∧ w1 = ([(rr, .inr (5, [.ref h, .ref rl, .ref ab, .int mn, .int (((F_readTenant f n rs a).1).1)]))] ++ (tWd γ h hg n f (((F_readTenant f n rs a).1).2.1) (((F_readTenant f n rs a).1).2.2.1) (((F_readTenant f n rs a).1).2.2.2)) ++ (aWd γ ab a0 a1 a2 a3 a4 a5 a6 a7 ((F_readTenant f n rs a).2)))) := by
  refine k_ofW (by decide) (Nat.le_of_ble_eq_true rfl) ?_
  intro p9 e s m below meth c A ls hC hr hlocks hname hw hl
  have hx := hC.1
  have hb := hC.2.1
  have hl : lv_has ls 4 [(0, .ref rr)] := hl
  have hT : (a.2.2.2.2.2.2.2.1) ≤ 8 := hA.1
  have hQ : (a.2.2.2.2.2.2.2.2.1) ≤ 5 := hA.2.1
  have hE9 : (a.2.2.2.2.2.2.2.2.2.2.2.2.2.1) ≤ 1000 := hA.2.2
  refine lv_aload_n hx hb dX5_readTenant_0 rfl (lv_at hl 0 rfl) ?_
  refine fg_RX5_19 hC hw 0 rfl rfl dX5_readTenant_1 ?_
  refine fg_RX5_167 hC hw 3 rfl rfl dX5_readTenant_4 ?_
  refine lv_iconst (v := 5) hx hb dX5_readTenant_7 (by decide) ?_
  refine lv_icmp_lt (tgt := 17) hx hb dX5_readTenant_8 (by decide) (fun c_109 => ?_) (fun c_109 => ?_)
  · refine lv_aload_n hx hb dX5_readTenant_17 rfl (lv_at hl 0 rfl) ?_
    refine fg_RX5_15 hC hw 0 rfl rfl dX5_readTenant_18 ?_
    refine k_V (wr := ([(rr, .inr (5, [.ref h, .ref rl, .ref ab, .int mn, .int (rs.1)]))] ++ (aWd γ ab a0 a1 a2 a3 a4 a5 a6 a7 a))) 0 gw_497 gw_461 gw_462 gw_2 gw_463 hd_X8_advance hC hw (c_av γ l h hg n rs f hn hok) ⟨by decide, by decide⟩ ⟨by decide, by decide⟩ hl.1 rfl 1 rfl rfl rfl (Nat.le_of_ble_eq_true rfl) [1, 2] [0, 3, 4, 5, 6, 7, 8, 9, 10] rfl rfl rfl rfl (by decide) dX5_readTenant_21 (fun r w1 H locs hq hw => ?_)
    obtain ⟨rfl, rfl⟩ := hq
    have hw : kW γ A ([(rr, .inr (5, [.ref h, .ref rl, .ref ab, .int mn, .int (rs.1)]))] ++ (aWd γ ab a0 a1 a2 a3 a4 a5 a6 a7 a) ++ (tWd γ h hg n f ((av f n rs).2.1) ((av f n rs).2.2.1) ((av f n rs).2.2.2))) s H locs := hw
    refine W.eq (g2 := F0 m 24 ls []) rfl ?_
    refine lv_aload_n hx hb dX5_readTenant_24 rfl (lv_at hl 0 rfl) ?_
    refine k_V (wr := []) 0 gw_498 gw_500 gp_6 gw_14 gw_501 hd_X5_newName hC hw (c_newName γ l rr rl ab mn h hg n (av f n rs) f a0 a1 a2 a3 a4 a5 a6 a7 a hn hok hA) ⟨by decide, by decide⟩ ⟨by decide, by decide⟩ hl.1 rfl 0 rfl rfl rfl (Nat.le_of_ble_eq_true rfl) [0, 9, 10, 1, 2, 3, 4, 5, 6, 7, 8] [] rfl rfl rfl rfl (by decide) dX5_readTenant_25 (fun r w1 H locs hq hw => ?_)
    obtain ⟨rfl, rfl⟩ := hq
    have hw : kW γ A ([(rr, .inr (5, [.ref h, .ref rl, .ref ab, .int mn, .int (((F_newName f n (av f n rs) a).2).1)]))] ++ (tWd γ h hg n f (((F_newName f n (av f n rs) a).2).2.1) (((F_newName f n (av f n rs) a).2).2.2.1) (((F_newName f n (av f n rs) a).2).2.2.2)) ++ (aWd γ ab a0 a1 a2 a3 a4 a5 a6 a7 a)) s H locs := hw
    refine W.eq (g2 := F0 m 28 ls [.long ((F_newName f n (av f n rs) a).1)]) rfl ?_
    refine lv_lstore_n (lv' := [(1, .long ((F_newName f n (av f n rs) a).1)), (0, .ref rr)]) hx hb dX5_readTenant_28 rfl hl (by decide) rfl (fun ls hl => ?_)
    refine lv_aload_n hx hb dX5_readTenant_29 rfl (lv_at hl 1 rfl) ?_
    refine fg_RX5_15 hC hw 0 rfl rfl dX5_readTenant_30 ?_
    refine fg_RX5_36 hC hw 1 rfl rfl dX5_readTenant_33 ?_
    refine lv_astore_n (lv' := [(3, .ref (γ.2.2.2.2 (tw f n (((F_newName f n (av f n rs) a).2).2.1)))), (1, .long ((F_newName f n (av f n rs) a).1)), (0, .ref rr)]) hx hb dX5_readTenant_36 rfl hl (by decide) rfl (fun ls hl => ?_)
    refine lv_aload_n hx hb dX5_readTenant_37 rfl (lv_at hl 0 rfl) ?_
    refine k_VO (wr := ([(rr, .inr (5, [.ref h, .ref rl, .ref ab, .int mn, .int (((F_newName f n (av f n rs) a).2).1)]))] ++ (tWd γ h hg n f (((F_newName f n (av f n rs) a).2).2.1) (((F_newName f n (av f n rs) a).2).2.2.1) (((F_newName f n (av f n rs) a).2).2.2.2)) ++ (aWd γ ab a0 a1 a2 a3 a4 a5 a6 a7 a))) 0 gw_568 gw_569 gw_570 gw_4 gw_571 hd_X10_isKind hC hw (c_isKind γ l (tw f n (((F_newName f n (av f n rs) a).2).2.1)) tw_lt) ⟨by decide, by decide⟩ ⟨by decide, by decide⟩ hl.1 rfl rfl (tw_lt) rfl (Nat.le_of_ble_eq_true rfl) [] [0, 1, 2, 3, 4, 5, 6, 7, 8, 9, 10] rfl rfl rfl rfl (by decide) dX5_readTenant_38 (fun r w1 H locs hq hw => ?_)
    obtain ⟨rfl, rfl⟩ := hq
    have hw : kW γ A ([(rr, .inr (5, [.ref h, .ref rl, .ref ab, .int mn, .int (((F_newName f n (av f n rs) a).2).1)]))] ++ (tWd γ h hg n f (((F_newName f n (av f n rs) a).2).2.1) (((F_newName f n (av f n rs) a).2).2.2.1) (((F_newName f n (av f n rs) a).2).2.2.2)) ++ (aWd γ ab a0 a1 a2 a3 a4 a5 a6 a7 a)) s H locs := hw
    refine W.eq (g2 := F0 m 41 ls [.int (F_isKind (tw f n (((F_newName f n (av f n rs) a).2).2.1)))]) rfl ?_
    refine lv_if_ne (tgt := 49) hx hb dX5_readTenant_41 (by decide) (fun c_110 => ?_) (fun c_110 => ?_)
    · refine lv_aload_n hx hb dX5_readTenant_49 rfl (lv_at hl 2 rfl) ?_
      refine k_V (wr := (aWd γ ab a0 a1 a2 a3 a4 a5 a6 a7 a)) 0 gw_513 gw_515 gp_7 gw_14 gw_516 hd_X5_passUnlessFault hC hw (c_passUF γ l rr rl ab mn h hg n ((F_newName f n (av f n rs) a).2) f hn hok) ⟨by decide, by decide⟩ ⟨by decide, by decide⟩ hl.1 rfl 0 rfl rfl rfl (Nat.le_of_ble_eq_true rfl) [0, 1, 2] [3, 4, 5, 6, 7, 8, 9, 10] rfl rfl rfl rfl (by decide) dX5_readTenant_50 (fun r w1 H locs hq hw => ?_)
      obtain ⟨rfl, rfl⟩ := hq
      have hw : kW γ A ((aWd γ ab a0 a1 a2 a3 a4 a5 a6 a7 a) ++ [(rr, .inr (5, [.ref h, .ref rl, .ref ab, .int mn, .int ((F_passUF f n ((F_newName f n (av f n rs) a).2)).1)]))] ++ (tWd γ h hg n f ((F_passUF f n ((F_newName f n (av f n rs) a).2)).2.1) ((F_passUF f n ((F_newName f n (av f n rs) a).2)).2.2.1) ((F_passUF f n ((F_newName f n (av f n rs) a).2)).2.2.2))) s H locs := hw
      refine W.eq (g2 := F0 m 53 ls []) rfl ?_
      refine lv_aload_n hx hb dX5_readTenant_53 rfl (lv_at hl 2 rfl) ?_
      refine lv_bipush (v := 59) hx hb dX5_readTenant_54 (by decide) ?_
      refine k_V (wr := (aWd γ ab a0 a1 a2 a3 a4 a5 a6 a7 a)) 1 gw_529 gw_531 gp_10 gw_14 gw_532 hd_X5_passSign hC hw (c_passSign γ l rr rl ab mn h hg n (F_passUF f n ((F_newName f n (av f n rs) a).2)) f 59 hn hok) ⟨by decide, by decide⟩ ⟨by decide, by decide⟩ hl.1 rfl 8 rfl rfl rfl (Nat.le_of_ble_eq_true rfl) [8, 9, 10] [0, 1, 2, 3, 4, 5, 6, 7] rfl rfl rfl rfl (by decide) dX5_readTenant_56 (fun r w1 H locs hq hw => ?_)
      obtain ⟨rfl, rfl⟩ := hq
      have hw : kW γ A ((aWd γ ab a0 a1 a2 a3 a4 a5 a6 a7 a) ++ [(rr, .inr (5, [.ref h, .ref rl, .ref ab, .int mn, .int ((F_passSign f n (F_passUF f n ((F_newName f n (av f n rs) a).2)) 59).1)]))] ++ (tWd γ h hg n f ((F_passSign f n (F_passUF f n ((F_newName f n (av f n rs) a).2)) 59).2.1) ((F_passSign f n (F_passUF f n ((F_newName f n (av f n rs) a).2)) 59).2.2.1) ((F_passSign f n (F_passUF f n ((F_newName f n (av f n rs) a).2)) 59).2.2.2))) s H locs := hw
      refine W.eq (g2 := F0 m 59 ls []) rfl ?_
      refine lv_aload_n hx hb dX5_readTenant_59 rfl (lv_at hl 2 rfl) ?_
      refine fg_RX5_91 hC hw 8 rfl rfl dX5_readTenant_60 ?_
      refine lv_if_ne (tgt := 78) hx hb dX5_readTenant_63 (by decide) (fun c_111 => ?_) (fun c_111 => ?_)
      · have hE : (F_readTenant f n rs a) = ((F_passSign f n (F_passUF f n ((F_newName f n (av f n rs) a).2)) 59), a) := by unfold F_readTenant; rw [if_pos c_109, if_neg c_110, if_neg c_111]
        have hw : kW γ A ((aWd γ ab a0 a1 a2 a3 a4 a5 a6 a7 ((F_readTenant f n rs a).2)) ++ [(rr, .inr (5, [.ref h, .ref rl, .ref ab, .int mn, .int (((F_readTenant f n rs a).1).1)]))] ++ (tWd γ h hg n f (((F_readTenant f n rs a).1).2.1) (((F_readTenant f n rs a).1).2.2.1) (((F_readTenant f n rs a).1).2.2.2))) s H locs := by first | (rw [hE]; exact hw) | exact hw
        exact k_vret hC hr hlocks hw [8, 9, 10, 0, 1, 2, 3, 4, 5, 6, 7] rfl rfl ⟨rfl, rfl⟩ (by decide) (by decide) dX5_readTenant_78
      · refine lv_aload_n hx hb dX5_readTenant_66 rfl (lv_at hl 2 rfl) ?_
        refine fg_RX5_19 hC hw 8 rfl rfl dX5_readTenant_67 ?_
        refine lv_lload_n hx hb dX5_readTenant_70 rfl (lv_at hl 1 rfl) ?_
        refine lv_aload_n hx hb dX5_readTenant_71 rfl (lv_at hl 0 rfl) ?_
        refine k_wordN hC hw (k_zw hC).2.2.2.1 (tw_lt) nw_1834 dX5_readTenant_72 ?_
        refine k_V (wr := ([(rr, .inr (5, [.ref h, .ref rl, .ref ab, .int mn, .int ((F_passSign f n (F_passUF f n ((F_newName f n (av f n rs) a).2)) 59).1)]))] ++ (tWd γ h hg n f ((F_passSign f n (F_passUF f n ((F_newName f n (av f n rs) a).2)) 59).2.1) ((F_passSign f n (F_passUF f n ((F_newName f n (av f n rs) a).2)) 59).2.2.1) ((F_passSign f n (F_passUF f n ((F_newName f n (av f n rs) a).2)) 59).2.2.2)))) 2 gw_580 gw_581 gw_582 gw_13 gw_583 hd_X0_addTenant hC hw (c_addTenant γ l ab a0 a1 a2 a3 a4 a5 a6 a7 a ((F_newName f n (av f n rs) a).1) (kWv.getD (tw f n (((F_newName f n (av f n rs) a).2).2.1)) 0) hA) ⟨by decide, by decide⟩ ⟨by decide, by decide⟩ hl.1 rfl 0 rfl rfl rfl (Nat.le_of_ble_eq_true rfl) [0, 1, 2, 3, 4, 5, 6, 7] [8, 9, 10] rfl rfl rfl rfl (by decide) dX5_readTenant_75 (fun r w1 H locs hq hw => ?_)
        obtain ⟨rfl, rfl⟩ := hq
        have hw : kW γ A ([(rr, .inr (5, [.ref h, .ref rl, .ref ab, .int mn, .int ((F_passSign f n (F_passUF f n ((F_newName f n (av f n rs) a).2)) 59).1)]))] ++ (tWd γ h hg n f ((F_passSign f n (F_passUF f n ((F_newName f n (av f n rs) a).2)) 59).2.1) ((F_passSign f n (F_passUF f n ((F_newName f n (av f n rs) a).2)) 59).2.2.1) ((F_passSign f n (F_passUF f n ((F_newName f n (av f n rs) a).2)) 59).2.2.2)) ++ (aWd γ ab a0 a1 a2 a3 a4 a5 a6 a7 (F_addTenant a ((F_newName f n (av f n rs) a).1) (kWv.getD (tw f n (((F_newName f n (av f n rs) a).2).2.1)) 0)))) s H locs := hw
        refine W.eq (g2 := F0 m 78 ls []) rfl ?_
        have hE : (F_readTenant f n rs a) = ((F_passSign f n (F_passUF f n ((F_newName f n (av f n rs) a).2)) 59), (F_addTenant a ((F_newName f n (av f n rs) a).1) (kWv.getD (tw f n (((F_newName f n (av f n rs) a).2).2.1)) 0))) := by unfold F_readTenant; rw [if_pos c_109, if_neg c_110, if_pos c_111]
        have hw : kW γ A ([(rr, .inr (5, [.ref h, .ref rl, .ref ab, .int mn, .int (((F_readTenant f n rs a).1).1)]))] ++ (tWd γ h hg n f (((F_readTenant f n rs a).1).2.1) (((F_readTenant f n rs a).1).2.2.1) (((F_readTenant f n rs a).1).2.2.2)) ++ (aWd γ ab a0 a1 a2 a3 a4 a5 a6 a7 ((F_readTenant f n rs a).2))) s H locs := by first | (rw [hE]; exact hw) | exact hw
        exact k_vret hC hr hlocks hw [0, 1, 2, 3, 4, 5, 6, 7, 8, 9, 10] rfl rfl ⟨rfl, rfl⟩ (by decide) (by decide) dX5_readTenant_78
    · refine lv_aload_n hx hb dX5_readTenant_44 rfl (lv_at hl 2 rfl) ?_
      refine lv_iconst (v := 1) hx hb dX5_readTenant_45 (by decide) ?_
      refine k_V (wr := (aWd γ ab a0 a1 a2 a3 a4 a5 a6 a7 a)) 1 gw_493 gw_495 gp_5 gw_14 gw_496 hd_X5_fail hC hw (c_fail γ l rr rl ab mn h hg n ((F_newName f n (av f n rs) a).2) f 1 hn hok) ⟨by decide, by decide⟩ ⟨by decide, by decide⟩ hl.1 rfl 0 rfl rfl rfl (Nat.le_of_ble_eq_true rfl) [0, 1, 2] [3, 4, 5, 6, 7, 8, 9, 10] rfl rfl rfl rfl (by decide) dX5_readTenant_46 (fun r w1 H locs hq hw => ?_)
      obtain ⟨rfl, rfl⟩ := hq
      have hw : kW γ A ((aWd γ ab a0 a1 a2 a3 a4 a5 a6 a7 a) ++ [(rr, .inr (5, [.ref h, .ref rl, .ref ab, .int mn, .int ((F_fail f n ((F_newName f n (av f n rs) a).2) 1).1)]))] ++ (tWd γ h hg n f ((F_fail f n ((F_newName f n (av f n rs) a).2) 1).2.1) ((F_fail f n ((F_newName f n (av f n rs) a).2) 1).2.2.1) ((F_fail f n ((F_newName f n (av f n rs) a).2) 1).2.2.2))) s H locs := hw
      refine W.eq (g2 := F0 m 49 ls []) rfl ?_
      refine lv_aload_n hx hb dX5_readTenant_49 rfl (lv_at hl 2 rfl) ?_
      refine k_V (wr := (aWd γ ab a0 a1 a2 a3 a4 a5 a6 a7 a)) 0 gw_513 gw_515 gp_7 gw_14 gw_516 hd_X5_passUnlessFault hC hw (c_passUF γ l rr rl ab mn h hg n (F_fail f n ((F_newName f n (av f n rs) a).2) 1) f hn hok) ⟨by decide, by decide⟩ ⟨by decide, by decide⟩ hl.1 rfl 8 rfl rfl rfl (Nat.le_of_ble_eq_true rfl) [8, 9, 10] [0, 1, 2, 3, 4, 5, 6, 7] rfl rfl rfl rfl (by decide) dX5_readTenant_50 (fun r w1 H locs hq hw => ?_)
      obtain ⟨rfl, rfl⟩ := hq
      have hw : kW γ A ((aWd γ ab a0 a1 a2 a3 a4 a5 a6 a7 a) ++ [(rr, .inr (5, [.ref h, .ref rl, .ref ab, .int mn, .int ((F_passUF f n (F_fail f n ((F_newName f n (av f n rs) a).2) 1)).1)]))] ++ (tWd γ h hg n f ((F_passUF f n (F_fail f n ((F_newName f n (av f n rs) a).2) 1)).2.1) ((F_passUF f n (F_fail f n ((F_newName f n (av f n rs) a).2) 1)).2.2.1) ((F_passUF f n (F_fail f n ((F_newName f n (av f n rs) a).2) 1)).2.2.2))) s H locs := hw
      refine W.eq (g2 := F0 m 53 ls []) rfl ?_
      refine lv_aload_n hx hb dX5_readTenant_53 rfl (lv_at hl 2 rfl) ?_
      refine lv_bipush (v := 59) hx hb dX5_readTenant_54 (by decide) ?_
      refine k_V (wr := (aWd γ ab a0 a1 a2 a3 a4 a5 a6 a7 a)) 1 gw_529 gw_531 gp_10 gw_14 gw_532 hd_X5_passSign hC hw (c_passSign γ l rr rl ab mn h hg n (F_passUF f n (F_fail f n ((F_newName f n (av f n rs) a).2) 1)) f 59 hn hok) ⟨by decide, by decide⟩ ⟨by decide, by decide⟩ hl.1 rfl 8 rfl rfl rfl (Nat.le_of_ble_eq_true rfl) [8, 9, 10] [0, 1, 2, 3, 4, 5, 6, 7] rfl rfl rfl rfl (by decide) dX5_readTenant_56 (fun r w1 H locs hq hw => ?_)
      obtain ⟨rfl, rfl⟩ := hq
      have hw : kW γ A ((aWd γ ab a0 a1 a2 a3 a4 a5 a6 a7 a) ++ [(rr, .inr (5, [.ref h, .ref rl, .ref ab, .int mn, .int ((F_passSign f n (F_passUF f n (F_fail f n ((F_newName f n (av f n rs) a).2) 1)) 59).1)]))] ++ (tWd γ h hg n f ((F_passSign f n (F_passUF f n (F_fail f n ((F_newName f n (av f n rs) a).2) 1)) 59).2.1) ((F_passSign f n (F_passUF f n (F_fail f n ((F_newName f n (av f n rs) a).2) 1)) 59).2.2.1) ((F_passSign f n (F_passUF f n (F_fail f n ((F_newName f n (av f n rs) a).2) 1)) 59).2.2.2))) s H locs := hw
      refine W.eq (g2 := F0 m 59 ls []) rfl ?_
      refine lv_aload_n hx hb dX5_readTenant_59 rfl (lv_at hl 2 rfl) ?_
      refine fg_RX5_91 hC hw 8 rfl rfl dX5_readTenant_60 ?_
      refine lv_if_ne (tgt := 78) hx hb dX5_readTenant_63 (by decide) (fun c_112 => ?_) (fun c_112 => ?_)
      · have hE : (F_readTenant f n rs a) = ((F_passSign f n (F_passUF f n (F_fail f n ((F_newName f n (av f n rs) a).2) 1)) 59), a) := by unfold F_readTenant; rw [if_pos c_109, if_pos c_110, if_neg c_112]
        have hw : kW γ A ((aWd γ ab a0 a1 a2 a3 a4 a5 a6 a7 ((F_readTenant f n rs a).2)) ++ [(rr, .inr (5, [.ref h, .ref rl, .ref ab, .int mn, .int (((F_readTenant f n rs a).1).1)]))] ++ (tWd γ h hg n f (((F_readTenant f n rs a).1).2.1) (((F_readTenant f n rs a).1).2.2.1) (((F_readTenant f n rs a).1).2.2.2))) s H locs := by first | (rw [hE]; exact hw) | exact hw
        exact k_vret hC hr hlocks hw [8, 9, 10, 0, 1, 2, 3, 4, 5, 6, 7] rfl rfl ⟨rfl, rfl⟩ (by decide) (by decide) dX5_readTenant_78
      · refine lv_aload_n hx hb dX5_readTenant_66 rfl (lv_at hl 2 rfl) ?_
        refine fg_RX5_19 hC hw 8 rfl rfl dX5_readTenant_67 ?_
        refine lv_lload_n hx hb dX5_readTenant_70 rfl (lv_at hl 1 rfl) ?_
        refine lv_aload_n hx hb dX5_readTenant_71 rfl (lv_at hl 0 rfl) ?_
        refine k_wordN hC hw (k_zw hC).2.2.2.1 (tw_lt) nw_1834 dX5_readTenant_72 ?_
        refine k_V (wr := ([(rr, .inr (5, [.ref h, .ref rl, .ref ab, .int mn, .int ((F_passSign f n (F_passUF f n (F_fail f n ((F_newName f n (av f n rs) a).2) 1)) 59).1)]))] ++ (tWd γ h hg n f ((F_passSign f n (F_passUF f n (F_fail f n ((F_newName f n (av f n rs) a).2) 1)) 59).2.1) ((F_passSign f n (F_passUF f n (F_fail f n ((F_newName f n (av f n rs) a).2) 1)) 59).2.2.1) ((F_passSign f n (F_passUF f n (F_fail f n ((F_newName f n (av f n rs) a).2) 1)) 59).2.2.2)))) 2 gw_580 gw_581 gw_582 gw_13 gw_583 hd_X0_addTenant hC hw (c_addTenant γ l ab a0 a1 a2 a3 a4 a5 a6 a7 a ((F_newName f n (av f n rs) a).1) (kWv.getD (tw f n (((F_newName f n (av f n rs) a).2).2.1)) 0) hA) ⟨by decide, by decide⟩ ⟨by decide, by decide⟩ hl.1 rfl 0 rfl rfl rfl (Nat.le_of_ble_eq_true rfl) [0, 1, 2, 3, 4, 5, 6, 7] [8, 9, 10] rfl rfl rfl rfl (by decide) dX5_readTenant_75 (fun r w1 H locs hq hw => ?_)
        obtain ⟨rfl, rfl⟩ := hq
        have hw : kW γ A ([(rr, .inr (5, [.ref h, .ref rl, .ref ab, .int mn, .int ((F_passSign f n (F_passUF f n (F_fail f n ((F_newName f n (av f n rs) a).2) 1)) 59).1)]))] ++ (tWd γ h hg n f ((F_passSign f n (F_passUF f n (F_fail f n ((F_newName f n (av f n rs) a).2) 1)) 59).2.1) ((F_passSign f n (F_passUF f n (F_fail f n ((F_newName f n (av f n rs) a).2) 1)) 59).2.2.1) ((F_passSign f n (F_passUF f n (F_fail f n ((F_newName f n (av f n rs) a).2) 1)) 59).2.2.2)) ++ (aWd γ ab a0 a1 a2 a3 a4 a5 a6 a7 (F_addTenant a ((F_newName f n (av f n rs) a).1) (kWv.getD (tw f n (((F_newName f n (av f n rs) a).2).2.1)) 0)))) s H locs := hw
        refine W.eq (g2 := F0 m 78 ls []) rfl ?_
        have hE : (F_readTenant f n rs a) = ((F_passSign f n (F_passUF f n (F_fail f n ((F_newName f n (av f n rs) a).2) 1)) 59), (F_addTenant a ((F_newName f n (av f n rs) a).1) (kWv.getD (tw f n (((F_newName f n (av f n rs) a).2).2.1)) 0))) := by unfold F_readTenant; rw [if_pos c_109, if_pos c_110, if_pos c_112]
        have hw : kW γ A ([(rr, .inr (5, [.ref h, .ref rl, .ref ab, .int mn, .int (((F_readTenant f n rs a).1).1)]))] ++ (tWd γ h hg n f (((F_readTenant f n rs a).1).2.1) (((F_readTenant f n rs a).1).2.2.1) (((F_readTenant f n rs a).1).2.2.2)) ++ (aWd γ ab a0 a1 a2 a3 a4 a5 a6 a7 ((F_readTenant f n rs a).2))) s H locs := by first | (rw [hE]; exact hw) | exact hw
        exact k_vret hC hr hlocks hw [0, 1, 2, 3, 4, 5, 6, 7, 8, 9, 10] rfl rfl ⟨rfl, rfl⟩ (by decide) (by decide) dX5_readTenant_78
  · refine lv_aload_n hx hb dX5_readTenant_11 rfl (lv_at hl 0 rfl) ?_
    refine lv_iconst (v := 5) hx hb dX5_readTenant_12 (by decide) ?_
    refine k_V (wr := (aWd γ ab a0 a1 a2 a3 a4 a5 a6 a7 a)) 1 gw_493 gw_495 gp_5 gw_14 gw_496 hd_X5_fail hC hw (c_fail γ l rr rl ab mn h hg n rs f 5 hn hok) ⟨by decide, by decide⟩ ⟨by decide, by decide⟩ hl.1 rfl 0 rfl rfl rfl (Nat.le_of_ble_eq_true rfl) [0, 1, 2] [3, 4, 5, 6, 7, 8, 9, 10] rfl rfl rfl rfl (by decide) dX5_readTenant_13 (fun r w1 H locs hq hw => ?_)
    obtain ⟨rfl, rfl⟩ := hq
    have hw : kW γ A ((aWd γ ab a0 a1 a2 a3 a4 a5 a6 a7 a) ++ [(rr, .inr (5, [.ref h, .ref rl, .ref ab, .int mn, .int ((F_fail f n rs 5).1)]))] ++ (tWd γ h hg n f ((F_fail f n rs 5).2.1) ((F_fail f n rs 5).2.2.1) ((F_fail f n rs 5).2.2.2))) s H locs := hw
    refine W.eq (g2 := F0 m 16 ls []) rfl ?_
    have hE : (F_readTenant f n rs a) = ((F_fail f n rs 5), a) := by unfold F_readTenant; rw [if_neg c_109]
    have hw : kW γ A ((aWd γ ab a0 a1 a2 a3 a4 a5 a6 a7 ((F_readTenant f n rs a).2)) ++ [(rr, .inr (5, [.ref h, .ref rl, .ref ab, .int mn, .int (((F_readTenant f n rs a).1).1)]))] ++ (tWd γ h hg n f (((F_readTenant f n rs a).1).2.1) (((F_readTenant f n rs a).1).2.2.1) (((F_readTenant f n rs a).1).2.2.2))) s H locs := by first | (rw [hE]; exact hw) | exact hw
    exact k_vret hC hr hlocks hw [8, 9, 10, 0, 1, 2, 3, 4, 5, 6, 7] rfl rfl ⟨rfl, rfl⟩ (by decide) (by decide) dX5_readTenant_16

def F_passOnce (f : Nat → Int32) (n : Nat) (rs : rRS) (a : aAS) (w : Nat) : rRS × aAS :=
  if ((a.2.2.2.2.2.2.2.2.2.2.2.2.1) &&& (kWv.getD w 0)) = 0 then ((F_passUF f n rs), ((a.1), (a.2.1), (a.2.2.1), (a.2.2.2.1), (a.2.2.2.2.1), (a.2.2.2.2.2.1), (a.2.2.2.2.2.2.1), (a.2.2.2.2.2.2.2.1), (a.2.2.2.2.2.2.2.2.1), (a.2.2.2.2.2.2.2.2.2.1), (a.2.2.2.2.2.2.2.2.2.2.1), (a.2.2.2.2.2.2.2.2.2.2.2.1), ((a.2.2.2.2.2.2.2.2.2.2.2.2.1) ||| (kWv.getD w 0)), (a.2.2.2.2.2.2.2.2.2.2.2.2.2.1), (a.2.2.2.2.2.2.2.2.2.2.2.2.2.2.1), (a.2.2.2.2.2.2.2.2.2.2.2.2.2.2.2.1), (a.2.2.2.2.2.2.2.2.2.2.2.2.2.2.2.2.1), (a.2.2.2.2.2.2.2.2.2.2.2.2.2.2.2.2.2))) else ((F_passUF f n (F_fail f n rs 3)), ((a.1), (a.2.1), (a.2.2.1), (a.2.2.2.1), (a.2.2.2.2.1), (a.2.2.2.2.2.1), (a.2.2.2.2.2.2.1), (a.2.2.2.2.2.2.2.1), (a.2.2.2.2.2.2.2.2.1), (a.2.2.2.2.2.2.2.2.2.1), (a.2.2.2.2.2.2.2.2.2.2.1), (a.2.2.2.2.2.2.2.2.2.2.2.1), ((a.2.2.2.2.2.2.2.2.2.2.2.2.1) ||| (kWv.getD w 0)), (a.2.2.2.2.2.2.2.2.2.2.2.2.2.1), (a.2.2.2.2.2.2.2.2.2.2.2.2.2.2.1), (a.2.2.2.2.2.2.2.2.2.2.2.2.2.2.2.1), (a.2.2.2.2.2.2.2.2.2.2.2.2.2.2.2.2.1), (a.2.2.2.2.2.2.2.2.2.2.2.2.2.2.2.2.2)))
set_option maxHeartbeats 4000000 in
set_option maxRecDepth 100000 in
theorem c_passOnce (γ : kΓ) (l : Launch) (rr : Nat) (rl : Nat) (ab : Nat) (mn : Int32) (h : Nat) (hg : Nat) (n : Nat) (rs : rRS) (f : Nat → Int32) (a0 : Nat) (a1 : Nat) (a2 : Nat) (a3 : Nat) (a4 : Nat) (a5 : Nat) (a6 : Nat) (a7 : Nat) (a : aAS) (w : Nat) (hn : n ≤ 1000) (hok : ∀ k, k < n → kok (f k) = true) (hA : aOK a) (hwd : w < 26) : kM γ l yX5_passOnce cX5_passOnce 2 none ({ frames := 3, cells := 0, slots := 0, locals := 81 } : Room) [.ref rr, .ref (γ.2.2.2.2 w)] ([(rr, .inr (5, [.ref h, .ref rl, .ref ab, .int mn, .int (rs.1)]))] ++ (tWd γ h hg n f (rs.2.1) (rs.2.2.1) (rs.2.2.2)) ++ (aWd γ ab a0 a1 a2 a3 a4 a5 a6 a7 a)) (fun r w1 => r = none ∧ w1 = ([(rr, .inr (5, [.ref h, .ref rl, .ref ab, .int mn, .int (((F_passOnce f n rs a w).1).1)]))] ++ (tWd γ h hg n f (((F_passOnce f n rs a w).1).2.1) (((F_passOnce f n rs a w).1).2.2.1) (((F_passOnce f n rs a w).1).2.2.2)) ++ (aWd γ ab a0 a1 a2 a3 a4 a5 a6 a7 ((F_passOnce f n rs a w).2)))) := by
  refine k_ofW (by decide) (Nat.le_of_ble_eq_true rfl) ?_
  intro p9 e s m below meth c A ls hC hr hlocks hname hw hl
  have hx := hC.1
  have hb := hC.2.1
  have hl : lv_has ls 2 [(0, .ref rr), (1, .ref (γ.2.2.2.2 w))] := hl
  have hT : (a.2.2.2.2.2.2.2.1) ≤ 8 := hA.1
  have hQ : (a.2.2.2.2.2.2.2.2.1) ≤ 5 := hA.2.1
  have hE9 : (a.2.2.2.2.2.2.2.2.2.2.2.2.2.1) ≤ 1000 := hA.2.2
  refine lv_aload_n hx hb dX5_passOnce_0 rfl (lv_at hl 0 rfl) ?_
  refine fg_RX5_19 hC hw 0 rfl rfl dX5_passOnce_1 ?_
  refine fg_RX5_210 hC hw 3 rfl rfl dX5_passOnce_4 ?_
  refine lv_aload_n hx hb dX5_passOnce_7 rfl (lv_at hl 1 rfl) ?_
  refine k_wordN hC hw (k_zw hC).2.2.2.1 hwd nw_1834 dX5_passOnce_8 ?_
  refine lv_iand hx hb dX5_passOnce_11 ?_
  refine lv_if_eq (tgt := 20) hx hb dX5_passOnce_12 (by decide) (fun c_114 => ?_) (fun c_114 => ?_)
  · refine lv_aload_n hx hb dX5_passOnce_20 rfl (lv_at hl 0 rfl) ?_
    refine fg_RX5_19 hC hw 0 rfl rfl dX5_passOnce_21 ?_
    refine lv_dup hx hb dX5_passOnce_24 rfl ?_
    refine fg_RX5_210 hC hw 3 rfl rfl dX5_passOnce_25 ?_
    refine lv_aload_n hx hb dX5_passOnce_28 rfl (lv_at hl 1 rfl) ?_
    refine k_wordN hC hw (k_zw hC).2.2.2.1 hwd nw_1834 dX5_passOnce_29 ?_
    refine lv_ior hx hb dX5_passOnce_32 ?_
    refine fs_RX5_210 hC hw 3 rfl rfl rfl (Nat.le_of_ble_eq_true rfl) dX5_passOnce_33 (fun H locs hw => ?_)
    have hw : kW γ A ([(rr, .inr (5, [.ref h, .ref rl, .ref ab, .int mn, .int (rs.1)]))] ++ (tWd γ h hg n f (rs.2.1) (rs.2.2.1) (rs.2.2.2)) ++ (aWd γ ab a0 a1 a2 a3 a4 a5 a6 a7 ((a.1), (a.2.1), (a.2.2.1), (a.2.2.2.1), (a.2.2.2.2.1), (a.2.2.2.2.2.1), (a.2.2.2.2.2.2.1), (a.2.2.2.2.2.2.2.1), (a.2.2.2.2.2.2.2.2.1), (a.2.2.2.2.2.2.2.2.2.1), (a.2.2.2.2.2.2.2.2.2.2.1), (a.2.2.2.2.2.2.2.2.2.2.2.1), ((a.2.2.2.2.2.2.2.2.2.2.2.2.1) ||| (kWv.getD w 0)), (a.2.2.2.2.2.2.2.2.2.2.2.2.2.1), (a.2.2.2.2.2.2.2.2.2.2.2.2.2.2.1), (a.2.2.2.2.2.2.2.2.2.2.2.2.2.2.2.1), (a.2.2.2.2.2.2.2.2.2.2.2.2.2.2.2.2.1), (a.2.2.2.2.2.2.2.2.2.2.2.2.2.2.2.2.2)))) s H locs := hw
    refine lv_aload_n hx hb dX5_passOnce_36 rfl (lv_at hl 0 rfl) ?_
    refine k_V (wr := (aWd γ ab a0 a1 a2 a3 a4 a5 a6 a7 ((a.1), (a.2.1), (a.2.2.1), (a.2.2.2.1), (a.2.2.2.2.1), (a.2.2.2.2.2.1), (a.2.2.2.2.2.2.1), (a.2.2.2.2.2.2.2.1), (a.2.2.2.2.2.2.2.2.1), (a.2.2.2.2.2.2.2.2.2.1), (a.2.2.2.2.2.2.2.2.2.2.1), (a.2.2.2.2.2.2.2.2.2.2.2.1), ((a.2.2.2.2.2.2.2.2.2.2.2.2.1) ||| (kWv.getD w 0)), (a.2.2.2.2.2.2.2.2.2.2.2.2.2.1), (a.2.2.2.2.2.2.2.2.2.2.2.2.2.2.1), (a.2.2.2.2.2.2.2.2.2.2.2.2.2.2.2.1), (a.2.2.2.2.2.2.2.2.2.2.2.2.2.2.2.2.1), (a.2.2.2.2.2.2.2.2.2.2.2.2.2.2.2.2.2)))) 0 gw_513 gw_515 gp_7 gw_14 gw_516 hd_X5_passUnlessFault hC hw (c_passUF γ l rr rl ab mn h hg n rs f hn hok) ⟨by decide, by decide⟩ ⟨by decide, by decide⟩ hl.1 rfl 0 rfl rfl rfl (Nat.le_of_ble_eq_true rfl) [0, 1, 2] [3, 4, 5, 6, 7, 8, 9, 10] rfl rfl rfl rfl (by decide) dX5_passOnce_37 (fun r w1 H locs hq hw => ?_)
    obtain ⟨rfl, rfl⟩ := hq
    have hw : kW γ A ((aWd γ ab a0 a1 a2 a3 a4 a5 a6 a7 ((a.1), (a.2.1), (a.2.2.1), (a.2.2.2.1), (a.2.2.2.2.1), (a.2.2.2.2.2.1), (a.2.2.2.2.2.2.1), (a.2.2.2.2.2.2.2.1), (a.2.2.2.2.2.2.2.2.1), (a.2.2.2.2.2.2.2.2.2.1), (a.2.2.2.2.2.2.2.2.2.2.1), (a.2.2.2.2.2.2.2.2.2.2.2.1), ((a.2.2.2.2.2.2.2.2.2.2.2.2.1) ||| (kWv.getD w 0)), (a.2.2.2.2.2.2.2.2.2.2.2.2.2.1), (a.2.2.2.2.2.2.2.2.2.2.2.2.2.2.1), (a.2.2.2.2.2.2.2.2.2.2.2.2.2.2.2.1), (a.2.2.2.2.2.2.2.2.2.2.2.2.2.2.2.2.1), (a.2.2.2.2.2.2.2.2.2.2.2.2.2.2.2.2.2))) ++ [(rr, .inr (5, [.ref h, .ref rl, .ref ab, .int mn, .int ((F_passUF f n rs).1)]))] ++ (tWd γ h hg n f ((F_passUF f n rs).2.1) ((F_passUF f n rs).2.2.1) ((F_passUF f n rs).2.2.2))) s H locs := hw
    refine W.eq (g2 := F0 m 40 ls []) rfl ?_
    have hE : (F_passOnce f n rs a w) = ((F_passUF f n rs), ((a.1), (a.2.1), (a.2.2.1), (a.2.2.2.1), (a.2.2.2.2.1), (a.2.2.2.2.2.1), (a.2.2.2.2.2.2.1), (a.2.2.2.2.2.2.2.1), (a.2.2.2.2.2.2.2.2.1), (a.2.2.2.2.2.2.2.2.2.1), (a.2.2.2.2.2.2.2.2.2.2.1), (a.2.2.2.2.2.2.2.2.2.2.2.1), ((a.2.2.2.2.2.2.2.2.2.2.2.2.1) ||| (kWv.getD w 0)), (a.2.2.2.2.2.2.2.2.2.2.2.2.2.1), (a.2.2.2.2.2.2.2.2.2.2.2.2.2.2.1), (a.2.2.2.2.2.2.2.2.2.2.2.2.2.2.2.1), (a.2.2.2.2.2.2.2.2.2.2.2.2.2.2.2.2.1), (a.2.2.2.2.2.2.2.2.2.2.2.2.2.2.2.2.2))) := by unfold F_passOnce; rw [if_pos c_114]
    have hw : kW γ A ((aWd γ ab a0 a1 a2 a3 a4 a5 a6 a7 ((F_passOnce f n rs a w).2)) ++ [(rr, .inr (5, [.ref h, .ref rl, .ref ab, .int mn, .int (((F_passOnce f n rs a w).1).1)]))] ++ (tWd γ h hg n f (((F_passOnce f n rs a w).1).2.1) (((F_passOnce f n rs a w).1).2.2.1) (((F_passOnce f n rs a w).1).2.2.2))) s H locs := by first | (rw [hE]; exact hw) | exact hw
    exact k_vret hC hr hlocks hw [8, 9, 10, 0, 1, 2, 3, 4, 5, 6, 7] rfl rfl ⟨rfl, rfl⟩ (by decide) (by decide) dX5_passOnce_40
  · refine lv_aload_n hx hb dX5_passOnce_15 rfl (lv_at hl 0 rfl) ?_
    refine lv_iconst (v := 3) hx hb dX5_passOnce_16 (by decide) ?_
    refine k_V (wr := (aWd γ ab a0 a1 a2 a3 a4 a5 a6 a7 a)) 1 gw_493 gw_495 gp_5 gw_14 gw_496 hd_X5_fail hC hw (c_fail γ l rr rl ab mn h hg n rs f 3 hn hok) ⟨by decide, by decide⟩ ⟨by decide, by decide⟩ hl.1 rfl 0 rfl rfl rfl (Nat.le_of_ble_eq_true rfl) [0, 1, 2] [3, 4, 5, 6, 7, 8, 9, 10] rfl rfl rfl rfl (by decide) dX5_passOnce_17 (fun r w1 H locs hq hw => ?_)
    obtain ⟨rfl, rfl⟩ := hq
    have hw : kW γ A ((aWd γ ab a0 a1 a2 a3 a4 a5 a6 a7 a) ++ [(rr, .inr (5, [.ref h, .ref rl, .ref ab, .int mn, .int ((F_fail f n rs 3).1)]))] ++ (tWd γ h hg n f ((F_fail f n rs 3).2.1) ((F_fail f n rs 3).2.2.1) ((F_fail f n rs 3).2.2.2))) s H locs := hw
    refine W.eq (g2 := F0 m 20 ls []) rfl ?_
    refine lv_aload_n hx hb dX5_passOnce_20 rfl (lv_at hl 0 rfl) ?_
    refine fg_RX5_19 hC hw 8 rfl rfl dX5_passOnce_21 ?_
    refine lv_dup hx hb dX5_passOnce_24 rfl ?_
    refine fg_RX5_210 hC hw 0 rfl rfl dX5_passOnce_25 ?_
    refine lv_aload_n hx hb dX5_passOnce_28 rfl (lv_at hl 1 rfl) ?_
    refine k_wordN hC hw (k_zw hC).2.2.2.1 hwd nw_1834 dX5_passOnce_29 ?_
    refine lv_ior hx hb dX5_passOnce_32 ?_
    refine fs_RX5_210 hC hw 0 rfl rfl rfl (Nat.le_of_ble_eq_true rfl) dX5_passOnce_33 (fun H locs hw => ?_)
    have hw : kW γ A ((aWd γ ab a0 a1 a2 a3 a4 a5 a6 a7 ((a.1), (a.2.1), (a.2.2.1), (a.2.2.2.1), (a.2.2.2.2.1), (a.2.2.2.2.2.1), (a.2.2.2.2.2.2.1), (a.2.2.2.2.2.2.2.1), (a.2.2.2.2.2.2.2.2.1), (a.2.2.2.2.2.2.2.2.2.1), (a.2.2.2.2.2.2.2.2.2.2.1), (a.2.2.2.2.2.2.2.2.2.2.2.1), ((a.2.2.2.2.2.2.2.2.2.2.2.2.1) ||| (kWv.getD w 0)), (a.2.2.2.2.2.2.2.2.2.2.2.2.2.1), (a.2.2.2.2.2.2.2.2.2.2.2.2.2.2.1), (a.2.2.2.2.2.2.2.2.2.2.2.2.2.2.2.1), (a.2.2.2.2.2.2.2.2.2.2.2.2.2.2.2.2.1), (a.2.2.2.2.2.2.2.2.2.2.2.2.2.2.2.2.2))) ++ [(rr, .inr (5, [.ref h, .ref rl, .ref ab, .int mn, .int ((F_fail f n rs 3).1)]))] ++ (tWd γ h hg n f ((F_fail f n rs 3).2.1) ((F_fail f n rs 3).2.2.1) ((F_fail f n rs 3).2.2.2))) s H locs := hw
    refine lv_aload_n hx hb dX5_passOnce_36 rfl (lv_at hl 0 rfl) ?_
    refine k_V (wr := (aWd γ ab a0 a1 a2 a3 a4 a5 a6 a7 ((a.1), (a.2.1), (a.2.2.1), (a.2.2.2.1), (a.2.2.2.2.1), (a.2.2.2.2.2.1), (a.2.2.2.2.2.2.1), (a.2.2.2.2.2.2.2.1), (a.2.2.2.2.2.2.2.2.1), (a.2.2.2.2.2.2.2.2.2.1), (a.2.2.2.2.2.2.2.2.2.2.1), (a.2.2.2.2.2.2.2.2.2.2.2.1), ((a.2.2.2.2.2.2.2.2.2.2.2.2.1) ||| (kWv.getD w 0)), (a.2.2.2.2.2.2.2.2.2.2.2.2.2.1), (a.2.2.2.2.2.2.2.2.2.2.2.2.2.2.1), (a.2.2.2.2.2.2.2.2.2.2.2.2.2.2.2.1), (a.2.2.2.2.2.2.2.2.2.2.2.2.2.2.2.2.1), (a.2.2.2.2.2.2.2.2.2.2.2.2.2.2.2.2.2)))) 0 gw_513 gw_515 gp_7 gw_14 gw_516 hd_X5_passUnlessFault hC hw (c_passUF γ l rr rl ab mn h hg n (F_fail f n rs 3) f hn hok) ⟨by decide, by decide⟩ ⟨by decide, by decide⟩ hl.1 rfl 8 rfl rfl rfl (Nat.le_of_ble_eq_true rfl) [8, 9, 10] [0, 1, 2, 3, 4, 5, 6, 7] rfl rfl rfl rfl (by decide) dX5_passOnce_37 (fun r w1 H locs hq hw => ?_)
    obtain ⟨rfl, rfl⟩ := hq
    have hw : kW γ A ((aWd γ ab a0 a1 a2 a3 a4 a5 a6 a7 ((a.1), (a.2.1), (a.2.2.1), (a.2.2.2.1), (a.2.2.2.2.1), (a.2.2.2.2.2.1), (a.2.2.2.2.2.2.1), (a.2.2.2.2.2.2.2.1), (a.2.2.2.2.2.2.2.2.1), (a.2.2.2.2.2.2.2.2.2.1), (a.2.2.2.2.2.2.2.2.2.2.1), (a.2.2.2.2.2.2.2.2.2.2.2.1), ((a.2.2.2.2.2.2.2.2.2.2.2.2.1) ||| (kWv.getD w 0)), (a.2.2.2.2.2.2.2.2.2.2.2.2.2.1), (a.2.2.2.2.2.2.2.2.2.2.2.2.2.2.1), (a.2.2.2.2.2.2.2.2.2.2.2.2.2.2.2.1), (a.2.2.2.2.2.2.2.2.2.2.2.2.2.2.2.2.1), (a.2.2.2.2.2.2.2.2.2.2.2.2.2.2.2.2.2))) ++ [(rr, .inr (5, [.ref h, .ref rl, .ref ab, .int mn, .int ((F_passUF f n (F_fail f n rs 3)).1)]))] ++ (tWd γ h hg n f ((F_passUF f n (F_fail f n rs 3)).2.1) ((F_passUF f n (F_fail f n rs 3)).2.2.1) ((F_passUF f n (F_fail f n rs 3)).2.2.2))) s H locs := hw
    refine W.eq (g2 := F0 m 40 ls []) rfl ?_
    have hE : (F_passOnce f n rs a w) = ((F_passUF f n (F_fail f n rs 3)), ((a.1), (a.2.1), (a.2.2.1), (a.2.2.2.1), (a.2.2.2.2.1), (a.2.2.2.2.2.1), (a.2.2.2.2.2.2.1), (a.2.2.2.2.2.2.2.1), (a.2.2.2.2.2.2.2.2.1), (a.2.2.2.2.2.2.2.2.2.1), (a.2.2.2.2.2.2.2.2.2.2.1), (a.2.2.2.2.2.2.2.2.2.2.2.1), ((a.2.2.2.2.2.2.2.2.2.2.2.2.1) ||| (kWv.getD w 0)), (a.2.2.2.2.2.2.2.2.2.2.2.2.2.1), (a.2.2.2.2.2.2.2.2.2.2.2.2.2.2.1), (a.2.2.2.2.2.2.2.2.2.2.2.2.2.2.2.1), (a.2.2.2.2.2.2.2.2.2.2.2.2.2.2.2.2.1), (a.2.2.2.2.2.2.2.2.2.2.2.2.2.2.2.2.2))) := by unfold F_passOnce; rw [if_neg c_114]
    have hw : kW γ A ((aWd γ ab a0 a1 a2 a3 a4 a5 a6 a7 ((F_passOnce f n rs a w).2)) ++ [(rr, .inr (5, [.ref h, .ref rl, .ref ab, .int mn, .int (((F_passOnce f n rs a w).1).1)]))] ++ (tWd γ h hg n f (((F_passOnce f n rs a w).1).2.1) (((F_passOnce f n rs a w).1).2.2.1) (((F_passOnce f n rs a w).1).2.2.2))) s H locs := by first | (rw [hE]; exact hw) | exact hw
    exact k_vret hC hr hlocks hw [8, 9, 10, 0, 1, 2, 3, 4, 5, 6, 7] rfl rfl ⟨rfl, rfl⟩ (by decide) (by decide) dX5_passOnce_40

def F_readSetting (f : Nat → Int32) (n : Nat) (rs : rRS) (a : aAS) (w : Nat) : rRS × aAS :=
  if w = 7 then ((F_passSign f n ((F_numberWithin f n ((F_passOnce f n rs a w).1) 2 12).2) 59), ((((F_passOnce f n rs a w).2).1), (((F_passOnce f n rs a w).2).2.1), (((F_passOnce f n rs a w).2).2.2.1), (((F_passOnce f n rs a w).2).2.2.2.1), (((F_passOnce f n rs a w).2).2.2.2.2.1), (((F_passOnce f n rs a w).2).2.2.2.2.2.1), (((F_passOnce f n rs a w).2).2.2.2.2.2.2.1), (((F_passOnce f n rs a w).2).2.2.2.2.2.2.2.1), (((F_passOnce f n rs a w).2).2.2.2.2.2.2.2.2.1), ((F_numberWithin f n ((F_passOnce f n rs a w).1) 2 12).1), (((F_passOnce f n rs a w).2).2.2.2.2.2.2.2.2.2.2.1), (((F_passOnce f n rs a w).2).2.2.2.2.2.2.2.2.2.2.2.1), (((F_passOnce f n rs a w).2).2.2.2.2.2.2.2.2.2.2.2.2.1), (((F_passOnce f n rs a w).2).2.2.2.2.2.2.2.2.2.2.2.2.2.1), (((F_passOnce f n rs a w).2).2.2.2.2.2.2.2.2.2.2.2.2.2.2.1), (((F_passOnce f n rs a w).2).2.2.2.2.2.2.2.2.2.2.2.2.2.2.2.1), (((F_passOnce f n rs a w).2).2.2.2.2.2.2.2.2.2.2.2.2.2.2.2.2.1), (((F_passOnce f n rs a w).2).2.2.2.2.2.2.2.2.2.2.2.2.2.2.2.2.2))) else (if w = 8 then ((F_passSign f n ((F_numberWithin f n ((F_passOnce f n rs a w).1) 0 20).2) 59), ((((F_passOnce f n rs a w).2).1), (((F_passOnce f n rs a w).2).2.1), (((F_passOnce f n rs a w).2).2.2.1), (((F_passOnce f n rs a w).2).2.2.2.1), (((F_passOnce f n rs a w).2).2.2.2.2.1), (((F_passOnce f n rs a w).2).2.2.2.2.2.1), (((F_passOnce f n rs a w).2).2.2.2.2.2.2.1), (((F_passOnce f n rs a w).2).2.2.2.2.2.2.2.1), (((F_passOnce f n rs a w).2).2.2.2.2.2.2.2.2.1), (((F_passOnce f n rs a w).2).2.2.2.2.2.2.2.2.2.1), ((F_numberWithin f n ((F_passOnce f n rs a w).1) 0 20).1), (((F_passOnce f n rs a w).2).2.2.2.2.2.2.2.2.2.2.2.1), (((F_passOnce f n rs a w).2).2.2.2.2.2.2.2.2.2.2.2.2.1), (((F_passOnce f n rs a w).2).2.2.2.2.2.2.2.2.2.2.2.2.2.1), (((F_passOnce f n rs a w).2).2.2.2.2.2.2.2.2.2.2.2.2.2.2.1), (((F_passOnce f n rs a w).2).2.2.2.2.2.2.2.2.2.2.2.2.2.2.2.1), (((F_passOnce f n rs a w).2).2.2.2.2.2.2.2.2.2.2.2.2.2.2.2.2.1), (((F_passOnce f n rs a w).2).2.2.2.2.2.2.2.2.2.2.2.2.2.2.2.2.2))) else ((F_passSign f n ((F_numberWithin f n ((F_passOnce f n rs a w).1) 1 6).2) 59), ((((F_passOnce f n rs a w).2).1), (((F_passOnce f n rs a w).2).2.1), (((F_passOnce f n rs a w).2).2.2.1), (((F_passOnce f n rs a w).2).2.2.2.1), (((F_passOnce f n rs a w).2).2.2.2.2.1), (((F_passOnce f n rs a w).2).2.2.2.2.2.1), (((F_passOnce f n rs a w).2).2.2.2.2.2.2.1), (((F_passOnce f n rs a w).2).2.2.2.2.2.2.2.1), (((F_passOnce f n rs a w).2).2.2.2.2.2.2.2.2.1), (((F_passOnce f n rs a w).2).2.2.2.2.2.2.2.2.2.1), (((F_passOnce f n rs a w).2).2.2.2.2.2.2.2.2.2.2.1), ((F_numberWithin f n ((F_passOnce f n rs a w).1) 1 6).1), (((F_passOnce f n rs a w).2).2.2.2.2.2.2.2.2.2.2.2.2.1), (((F_passOnce f n rs a w).2).2.2.2.2.2.2.2.2.2.2.2.2.2.1), (((F_passOnce f n rs a w).2).2.2.2.2.2.2.2.2.2.2.2.2.2.2.1), (((F_passOnce f n rs a w).2).2.2.2.2.2.2.2.2.2.2.2.2.2.2.2.1), (((F_passOnce f n rs a w).2).2.2.2.2.2.2.2.2.2.2.2.2.2.2.2.2.1), (((F_passOnce f n rs a w).2).2.2.2.2.2.2.2.2.2.2.2.2.2.2.2.2.2))))
set_option maxHeartbeats 4000000 in
set_option maxRecDepth 100000 in
theorem c_readSetting (γ : kΓ) (l : Launch) (rr : Nat) (rl : Nat) (ab : Nat) (mn : Int32) (h : Nat) (hg : Nat) (n : Nat) (rs : rRS) (f : Nat → Int32) (a0 : Nat) (a1 : Nat) (a2 : Nat) (a3 : Nat) (a4 : Nat) (a5 : Nat) (a6 : Nat) (a7 : Nat) (a : aAS) (w : Nat) (hn : n ≤ 1000) (hok : ∀ k, k < n → kok (f k) = true) (hA : aOK a) (hwd : w < 26) : kM γ l yX5_readSetting cX5_readSetting 2 none ({ frames := 4, cells := 0, slots := 0, locals := 104 } : Room) [.ref rr, .ref (γ.2.2.2.2 w)] ([(rr, .inr (5, [.ref h, .ref rl, .ref ab, .int mn, .int (rs.1)]))] ++ (tWd γ h hg n f (rs.2.1) (rs.2.2.1) (rs.2.2.2)) ++ (aWd γ ab a0 a1 a2 a3 a4 a5 a6 a7 a)) (fun r w1 => r = none ∧ w1 = ([(rr, .inr (5, [.ref h, .ref rl, .ref ab, .int mn, .int (((F_readSetting f n rs a w).1).1)]))] ++ (tWd γ h hg n f (((F_readSetting f n rs a w).1).2.1) (((F_readSetting f n rs a w).1).2.2.1) (((F_readSetting f n rs a w).1).2.2.2)) ++ (aWd γ ab a0 a1 a2 a3 a4 a5 a6 a7 ((F_readSetting f n rs a w).2)))) := by
  refine k_ofW (by decide) (Nat.le_of_ble_eq_true rfl) ?_
  intro p9 e s m below meth c A ls hC hr hlocks hname hw hl
  have hx := hC.1
  have hb := hC.2.1
  have hl : lv_has ls 2 [(0, .ref rr), (1, .ref (γ.2.2.2.2 w))] := hl
  have hT : (a.2.2.2.2.2.2.2.1) ≤ 8 := hA.1
  have hQ : (a.2.2.2.2.2.2.2.2.1) ≤ 5 := hA.2.1
  have hE9 : (a.2.2.2.2.2.2.2.2.2.2.2.2.2.1) ≤ 1000 := hA.2.2
  refine lv_aload_n hx hb dX5_readSetting_0 rfl (lv_at hl 0 rfl) ?_
  refine lv_aload_n hx hb dX5_readSetting_1 rfl (lv_at hl 1 rfl) ?_
  refine k_V (wr := []) 1 gw_594 gw_596 gp_16 gw_14 gw_597 hd_X5_passOnce hC hw (c_passOnce γ l rr rl ab mn h hg n rs f a0 a1 a2 a3 a4 a5 a6 a7 a w hn hok hA hwd) ⟨by decide, by decide⟩ ⟨by decide, by decide⟩ hl.1 rfl 0 rfl rfl rfl (Nat.le_of_ble_eq_true rfl) [0, 1, 2, 3, 4, 5, 6, 7, 8, 9, 10] [] rfl rfl rfl rfl (by decide) dX5_readSetting_2 (fun r w1 H locs hq hw => ?_)
  obtain ⟨rfl, rfl⟩ := hq
  have hw : kW γ A ([(rr, .inr (5, [.ref h, .ref rl, .ref ab, .int mn, .int (((F_passOnce f n rs a w).1).1)]))] ++ (tWd γ h hg n f (((F_passOnce f n rs a w).1).2.1) (((F_passOnce f n rs a w).1).2.2.1) (((F_passOnce f n rs a w).1).2.2.2)) ++ (aWd γ ab a0 a1 a2 a3 a4 a5 a6 a7 ((F_passOnce f n rs a w).2))) s H locs := hw
  refine W.eq (g2 := F0 m 5 ls []) rfl ?_
  refine lv_aload_n hx hb dX5_readSetting_5 rfl (lv_at hl 1 rfl) ?_
  refine k_word hC hw (n := 7) (by decide) gw_584 dX5_readSetting_6 ?_
  refine lv_acmp_ne (rx := some (γ.2.2.2.2 w)) (ry := some (γ.2.2.2.2 7)) (tgt := 29) hx hb dX5_readSetting_9 (by decide) (fun c_117 => ?_) (fun c_117 => ?_)
  · have c_117 : ¬ w = 7 := fun h9 => c_117 ((k_weq hC hwd (by decide)).mpr h9)
    refine lv_aload_n hx hb dX5_readSetting_29 rfl (lv_at hl 1 rfl) ?_
    refine k_word hC hw (n := 8) (by decide) gw_586 dX5_readSetting_30 ?_
    refine lv_acmp_ne (rx := some (γ.2.2.2.2 w)) (ry := some (γ.2.2.2.2 8)) (tgt := 53) hx hb dX5_readSetting_33 (by decide) (fun c_118 => ?_) (fun c_118 => ?_)
    · have c_118 : ¬ w = 8 := fun h9 => c_118 ((k_weq hC hwd (by decide)).mpr h9)
      refine lv_aload_n hx hb dX5_readSetting_53 rfl (lv_at hl 0 rfl) ?_
      refine fg_RX5_19 hC hw 0 rfl rfl dX5_readSetting_54 ?_
      refine lv_aload_n hx hb dX5_readSetting_57 rfl (lv_at hl 0 rfl) ?_
      refine lv_iconst (v := 1) hx hb dX5_readSetting_58 (by decide) ?_
      refine lv_bipush (v := 6) hx hb dX5_readSetting_59 (by decide) ?_
      refine k_V (wr := (aWd γ ab a0 a1 a2 a3 a4 a5 a6 a7 ((F_passOnce f n rs a w).2))) 2 gw_523 gw_525 gp_9 gw_14 gw_526 hd_X5_numberWithin hC hw (c_numberWithin γ l rr rl ab mn h hg n ((F_passOnce f n rs a w).1) f 1 6 hn hok) ⟨by decide, by decide⟩ ⟨by decide, by decide⟩ hl.1 rfl 0 rfl rfl rfl (Nat.le_of_ble_eq_true rfl) [0, 1, 2] [3, 4, 5, 6, 7, 8, 9, 10] rfl rfl rfl rfl (by decide) dX5_readSetting_61 (fun r w1 H locs hq hw => ?_)
      obtain ⟨rfl, rfl⟩ := hq
      have hw : kW γ A ((aWd γ ab a0 a1 a2 a3 a4 a5 a6 a7 ((F_passOnce f n rs a w).2)) ++ [(rr, .inr (5, [.ref h, .ref rl, .ref ab, .int mn, .int (((F_numberWithin f n ((F_passOnce f n rs a w).1) 1 6).2).1)]))] ++ (tWd γ h hg n f (((F_numberWithin f n ((F_passOnce f n rs a w).1) 1 6).2).2.1) (((F_numberWithin f n ((F_passOnce f n rs a w).1) 1 6).2).2.2.1) (((F_numberWithin f n ((F_passOnce f n rs a w).1) 1 6).2).2.2.2))) s H locs := hw
      refine W.eq (g2 := F0 m 64 ls [.int ((F_numberWithin f n ((F_passOnce f n rs a w).1) 1 6).1), .ref ab]) rfl ?_
      refine fs_RX5_189 hC hw 0 rfl rfl rfl (Nat.le_of_ble_eq_true rfl) dX5_readSetting_64 (fun H locs hw => ?_)
      have hw : kW γ A ((aWd γ ab a0 a1 a2 a3 a4 a5 a6 a7 ((((F_passOnce f n rs a w).2).1), (((F_passOnce f n rs a w).2).2.1), (((F_passOnce f n rs a w).2).2.2.1), (((F_passOnce f n rs a w).2).2.2.2.1), (((F_passOnce f n rs a w).2).2.2.2.2.1), (((F_passOnce f n rs a w).2).2.2.2.2.2.1), (((F_passOnce f n rs a w).2).2.2.2.2.2.2.1), (((F_passOnce f n rs a w).2).2.2.2.2.2.2.2.1), (((F_passOnce f n rs a w).2).2.2.2.2.2.2.2.2.1), (((F_passOnce f n rs a w).2).2.2.2.2.2.2.2.2.2.1), (((F_passOnce f n rs a w).2).2.2.2.2.2.2.2.2.2.2.1), ((F_numberWithin f n ((F_passOnce f n rs a w).1) 1 6).1), (((F_passOnce f n rs a w).2).2.2.2.2.2.2.2.2.2.2.2.2.1), (((F_passOnce f n rs a w).2).2.2.2.2.2.2.2.2.2.2.2.2.2.1), (((F_passOnce f n rs a w).2).2.2.2.2.2.2.2.2.2.2.2.2.2.2.1), (((F_passOnce f n rs a w).2).2.2.2.2.2.2.2.2.2.2.2.2.2.2.2.1), (((F_passOnce f n rs a w).2).2.2.2.2.2.2.2.2.2.2.2.2.2.2.2.2.1), (((F_passOnce f n rs a w).2).2.2.2.2.2.2.2.2.2.2.2.2.2.2.2.2.2))) ++ [(rr, .inr (5, [.ref h, .ref rl, .ref ab, .int mn, .int (((F_numberWithin f n ((F_passOnce f n rs a w).1) 1 6).2).1)]))] ++ (tWd γ h hg n f (((F_numberWithin f n ((F_passOnce f n rs a w).1) 1 6).2).2.1) (((F_numberWithin f n ((F_passOnce f n rs a w).1) 1 6).2).2.2.1) (((F_numberWithin f n ((F_passOnce f n rs a w).1) 1 6).2).2.2.2))) s H locs := hw
      refine lv_aload_n hx hb dX5_readSetting_67 rfl (lv_at hl 0 rfl) ?_
      refine lv_bipush (v := 59) hx hb dX5_readSetting_68 (by decide) ?_
      refine k_V (wr := (aWd γ ab a0 a1 a2 a3 a4 a5 a6 a7 ((((F_passOnce f n rs a w).2).1), (((F_passOnce f n rs a w).2).2.1), (((F_passOnce f n rs a w).2).2.2.1), (((F_passOnce f n rs a w).2).2.2.2.1), (((F_passOnce f n rs a w).2).2.2.2.2.1), (((F_passOnce f n rs a w).2).2.2.2.2.2.1), (((F_passOnce f n rs a w).2).2.2.2.2.2.2.1), (((F_passOnce f n rs a w).2).2.2.2.2.2.2.2.1), (((F_passOnce f n rs a w).2).2.2.2.2.2.2.2.2.1), (((F_passOnce f n rs a w).2).2.2.2.2.2.2.2.2.2.1), (((F_passOnce f n rs a w).2).2.2.2.2.2.2.2.2.2.2.1), ((F_numberWithin f n ((F_passOnce f n rs a w).1) 1 6).1), (((F_passOnce f n rs a w).2).2.2.2.2.2.2.2.2.2.2.2.2.1), (((F_passOnce f n rs a w).2).2.2.2.2.2.2.2.2.2.2.2.2.2.1), (((F_passOnce f n rs a w).2).2.2.2.2.2.2.2.2.2.2.2.2.2.2.1), (((F_passOnce f n rs a w).2).2.2.2.2.2.2.2.2.2.2.2.2.2.2.2.1), (((F_passOnce f n rs a w).2).2.2.2.2.2.2.2.2.2.2.2.2.2.2.2.2.1), (((F_passOnce f n rs a w).2).2.2.2.2.2.2.2.2.2.2.2.2.2.2.2.2.2)))) 1 gw_529 gw_531 gp_10 gw_14 gw_532 hd_X5_passSign hC hw (c_passSign γ l rr rl ab mn h hg n ((F_numberWithin f n ((F_passOnce f n rs a w).1) 1 6).2) f 59 hn hok) ⟨by decide, by decide⟩ ⟨by decide, by decide⟩ hl.1 rfl 8 rfl rfl rfl (Nat.le_of_ble_eq_true rfl) [8, 9, 10] [0, 1, 2, 3, 4, 5, 6, 7] rfl rfl rfl rfl (by decide) dX5_readSetting_70 (fun r w1 H locs hq hw => ?_)
      obtain ⟨rfl, rfl⟩ := hq
      have hw : kW γ A ((aWd γ ab a0 a1 a2 a3 a4 a5 a6 a7 ((((F_passOnce f n rs a w).2).1), (((F_passOnce f n rs a w).2).2.1), (((F_passOnce f n rs a w).2).2.2.1), (((F_passOnce f n rs a w).2).2.2.2.1), (((F_passOnce f n rs a w).2).2.2.2.2.1), (((F_passOnce f n rs a w).2).2.2.2.2.2.1), (((F_passOnce f n rs a w).2).2.2.2.2.2.2.1), (((F_passOnce f n rs a w).2).2.2.2.2.2.2.2.1), (((F_passOnce f n rs a w).2).2.2.2.2.2.2.2.2.1), (((F_passOnce f n rs a w).2).2.2.2.2.2.2.2.2.2.1), (((F_passOnce f n rs a w).2).2.2.2.2.2.2.2.2.2.2.1), ((F_numberWithin f n ((F_passOnce f n rs a w).1) 1 6).1), (((F_passOnce f n rs a w).2).2.2.2.2.2.2.2.2.2.2.2.2.1), (((F_passOnce f n rs a w).2).2.2.2.2.2.2.2.2.2.2.2.2.2.1), (((F_passOnce f n rs a w).2).2.2.2.2.2.2.2.2.2.2.2.2.2.2.1), (((F_passOnce f n rs a w).2).2.2.2.2.2.2.2.2.2.2.2.2.2.2.2.1), (((F_passOnce f n rs a w).2).2.2.2.2.2.2.2.2.2.2.2.2.2.2.2.2.1), (((F_passOnce f n rs a w).2).2.2.2.2.2.2.2.2.2.2.2.2.2.2.2.2.2))) ++ [(rr, .inr (5, [.ref h, .ref rl, .ref ab, .int mn, .int ((F_passSign f n ((F_numberWithin f n ((F_passOnce f n rs a w).1) 1 6).2) 59).1)]))] ++ (tWd γ h hg n f ((F_passSign f n ((F_numberWithin f n ((F_passOnce f n rs a w).1) 1 6).2) 59).2.1) ((F_passSign f n ((F_numberWithin f n ((F_passOnce f n rs a w).1) 1 6).2) 59).2.2.1) ((F_passSign f n ((F_numberWithin f n ((F_passOnce f n rs a w).1) 1 6).2) 59).2.2.2))) s H locs := hw
      refine W.eq (g2 := F0 m 73 ls []) rfl ?_
      have hE : (F_readSetting f n rs a w) = ((F_passSign f n ((F_numberWithin f n ((F_passOnce f n rs a w).1) 1 6).2) 59), ((((F_passOnce f n rs a w).2).1), (((F_passOnce f n rs a w).2).2.1), (((F_passOnce f n rs a w).2).2.2.1), (((F_passOnce f n rs a w).2).2.2.2.1), (((F_passOnce f n rs a w).2).2.2.2.2.1), (((F_passOnce f n rs a w).2).2.2.2.2.2.1), (((F_passOnce f n rs a w).2).2.2.2.2.2.2.1), (((F_passOnce f n rs a w).2).2.2.2.2.2.2.2.1), (((F_passOnce f n rs a w).2).2.2.2.2.2.2.2.2.1), (((F_passOnce f n rs a w).2).2.2.2.2.2.2.2.2.2.1), (((F_passOnce f n rs a w).2).2.2.2.2.2.2.2.2.2.2.1), ((F_numberWithin f n ((F_passOnce f n rs a w).1) 1 6).1), (((F_passOnce f n rs a w).2).2.2.2.2.2.2.2.2.2.2.2.2.1), (((F_passOnce f n rs a w).2).2.2.2.2.2.2.2.2.2.2.2.2.2.1), (((F_passOnce f n rs a w).2).2.2.2.2.2.2.2.2.2.2.2.2.2.2.1), (((F_passOnce f n rs a w).2).2.2.2.2.2.2.2.2.2.2.2.2.2.2.2.1), (((F_passOnce f n rs a w).2).2.2.2.2.2.2.2.2.2.2.2.2.2.2.2.2.1), (((F_passOnce f n rs a w).2).2.2.2.2.2.2.2.2.2.2.2.2.2.2.2.2.2))) := by unfold F_readSetting; rw [if_neg c_117, if_neg c_118]
      have hw : kW γ A ((aWd γ ab a0 a1 a2 a3 a4 a5 a6 a7 ((F_readSetting f n rs a w).2)) ++ [(rr, .inr (5, [.ref h, .ref rl, .ref ab, .int mn, .int (((F_readSetting f n rs a w).1).1)]))] ++ (tWd γ h hg n f (((F_readSetting f n rs a w).1).2.1) (((F_readSetting f n rs a w).1).2.2.1) (((F_readSetting f n rs a w).1).2.2.2))) s H locs := by first | (rw [hE]; exact hw) | exact hw
      exact k_vret hC hr hlocks hw [8, 9, 10, 0, 1, 2, 3, 4, 5, 6, 7] rfl rfl ⟨rfl, rfl⟩ (by decide) (by decide) dX5_readSetting_73
    · have c_118 : w = 8 := (k_weq hC hwd (by decide)).mp c_118
      refine lv_aload_n hx hb dX5_readSetting_36 rfl (lv_at hl 0 rfl) ?_
      refine fg_RX5_19 hC hw 0 rfl rfl dX5_readSetting_37 ?_
      refine lv_aload_n hx hb dX5_readSetting_40 rfl (lv_at hl 0 rfl) ?_
      refine lv_iconst (v := 0) hx hb dX5_readSetting_41 (by decide) ?_
      refine lv_bipush (v := 20) hx hb dX5_readSetting_42 (by decide) ?_
      refine k_V (wr := (aWd γ ab a0 a1 a2 a3 a4 a5 a6 a7 ((F_passOnce f n rs a w).2))) 2 gw_523 gw_525 gp_9 gw_14 gw_526 hd_X5_numberWithin hC hw (c_numberWithin γ l rr rl ab mn h hg n ((F_passOnce f n rs a w).1) f 0 20 hn hok) ⟨by decide, by decide⟩ ⟨by decide, by decide⟩ hl.1 rfl 0 rfl rfl rfl (Nat.le_of_ble_eq_true rfl) [0, 1, 2] [3, 4, 5, 6, 7, 8, 9, 10] rfl rfl rfl rfl (by decide) dX5_readSetting_44 (fun r w1 H locs hq hw => ?_)
      obtain ⟨rfl, rfl⟩ := hq
      have hw : kW γ A ((aWd γ ab a0 a1 a2 a3 a4 a5 a6 a7 ((F_passOnce f n rs a w).2)) ++ [(rr, .inr (5, [.ref h, .ref rl, .ref ab, .int mn, .int (((F_numberWithin f n ((F_passOnce f n rs a w).1) 0 20).2).1)]))] ++ (tWd γ h hg n f (((F_numberWithin f n ((F_passOnce f n rs a w).1) 0 20).2).2.1) (((F_numberWithin f n ((F_passOnce f n rs a w).1) 0 20).2).2.2.1) (((F_numberWithin f n ((F_passOnce f n rs a w).1) 0 20).2).2.2.2))) s H locs := hw
      refine W.eq (g2 := F0 m 47 ls [.int ((F_numberWithin f n ((F_passOnce f n rs a w).1) 0 20).1), .ref ab]) rfl ?_
      refine fs_RX5_186 hC hw 0 rfl rfl rfl (Nat.le_of_ble_eq_true rfl) dX5_readSetting_47 (fun H locs hw => ?_)
      have hw : kW γ A ((aWd γ ab a0 a1 a2 a3 a4 a5 a6 a7 ((((F_passOnce f n rs a w).2).1), (((F_passOnce f n rs a w).2).2.1), (((F_passOnce f n rs a w).2).2.2.1), (((F_passOnce f n rs a w).2).2.2.2.1), (((F_passOnce f n rs a w).2).2.2.2.2.1), (((F_passOnce f n rs a w).2).2.2.2.2.2.1), (((F_passOnce f n rs a w).2).2.2.2.2.2.2.1), (((F_passOnce f n rs a w).2).2.2.2.2.2.2.2.1), (((F_passOnce f n rs a w).2).2.2.2.2.2.2.2.2.1), (((F_passOnce f n rs a w).2).2.2.2.2.2.2.2.2.2.1), ((F_numberWithin f n ((F_passOnce f n rs a w).1) 0 20).1), (((F_passOnce f n rs a w).2).2.2.2.2.2.2.2.2.2.2.2.1), (((F_passOnce f n rs a w).2).2.2.2.2.2.2.2.2.2.2.2.2.1), (((F_passOnce f n rs a w).2).2.2.2.2.2.2.2.2.2.2.2.2.2.1), (((F_passOnce f n rs a w).2).2.2.2.2.2.2.2.2.2.2.2.2.2.2.1), (((F_passOnce f n rs a w).2).2.2.2.2.2.2.2.2.2.2.2.2.2.2.2.1), (((F_passOnce f n rs a w).2).2.2.2.2.2.2.2.2.2.2.2.2.2.2.2.2.1), (((F_passOnce f n rs a w).2).2.2.2.2.2.2.2.2.2.2.2.2.2.2.2.2.2))) ++ [(rr, .inr (5, [.ref h, .ref rl, .ref ab, .int mn, .int (((F_numberWithin f n ((F_passOnce f n rs a w).1) 0 20).2).1)]))] ++ (tWd γ h hg n f (((F_numberWithin f n ((F_passOnce f n rs a w).1) 0 20).2).2.1) (((F_numberWithin f n ((F_passOnce f n rs a w).1) 0 20).2).2.2.1) (((F_numberWithin f n ((F_passOnce f n rs a w).1) 0 20).2).2.2.2))) s H locs := hw
      refine lv_goto (tgt := 67) hx hb dX5_readSetting_50 (by decide) ?_
      refine lv_aload_n hx hb dX5_readSetting_67 rfl (lv_at hl 0 rfl) ?_
      refine lv_bipush (v := 59) hx hb dX5_readSetting_68 (by decide) ?_
      refine k_V (wr := (aWd γ ab a0 a1 a2 a3 a4 a5 a6 a7 ((((F_passOnce f n rs a w).2).1), (((F_passOnce f n rs a w).2).2.1), (((F_passOnce f n rs a w).2).2.2.1), (((F_passOnce f n rs a w).2).2.2.2.1), (((F_passOnce f n rs a w).2).2.2.2.2.1), (((F_passOnce f n rs a w).2).2.2.2.2.2.1), (((F_passOnce f n rs a w).2).2.2.2.2.2.2.1), (((F_passOnce f n rs a w).2).2.2.2.2.2.2.2.1), (((F_passOnce f n rs a w).2).2.2.2.2.2.2.2.2.1), (((F_passOnce f n rs a w).2).2.2.2.2.2.2.2.2.2.1), ((F_numberWithin f n ((F_passOnce f n rs a w).1) 0 20).1), (((F_passOnce f n rs a w).2).2.2.2.2.2.2.2.2.2.2.2.1), (((F_passOnce f n rs a w).2).2.2.2.2.2.2.2.2.2.2.2.2.1), (((F_passOnce f n rs a w).2).2.2.2.2.2.2.2.2.2.2.2.2.2.1), (((F_passOnce f n rs a w).2).2.2.2.2.2.2.2.2.2.2.2.2.2.2.1), (((F_passOnce f n rs a w).2).2.2.2.2.2.2.2.2.2.2.2.2.2.2.2.1), (((F_passOnce f n rs a w).2).2.2.2.2.2.2.2.2.2.2.2.2.2.2.2.2.1), (((F_passOnce f n rs a w).2).2.2.2.2.2.2.2.2.2.2.2.2.2.2.2.2.2)))) 1 gw_529 gw_531 gp_10 gw_14 gw_532 hd_X5_passSign hC hw (c_passSign γ l rr rl ab mn h hg n ((F_numberWithin f n ((F_passOnce f n rs a w).1) 0 20).2) f 59 hn hok) ⟨by decide, by decide⟩ ⟨by decide, by decide⟩ hl.1 rfl 8 rfl rfl rfl (Nat.le_of_ble_eq_true rfl) [8, 9, 10] [0, 1, 2, 3, 4, 5, 6, 7] rfl rfl rfl rfl (by decide) dX5_readSetting_70 (fun r w1 H locs hq hw => ?_)
      obtain ⟨rfl, rfl⟩ := hq
      have hw : kW γ A ((aWd γ ab a0 a1 a2 a3 a4 a5 a6 a7 ((((F_passOnce f n rs a w).2).1), (((F_passOnce f n rs a w).2).2.1), (((F_passOnce f n rs a w).2).2.2.1), (((F_passOnce f n rs a w).2).2.2.2.1), (((F_passOnce f n rs a w).2).2.2.2.2.1), (((F_passOnce f n rs a w).2).2.2.2.2.2.1), (((F_passOnce f n rs a w).2).2.2.2.2.2.2.1), (((F_passOnce f n rs a w).2).2.2.2.2.2.2.2.1), (((F_passOnce f n rs a w).2).2.2.2.2.2.2.2.2.1), (((F_passOnce f n rs a w).2).2.2.2.2.2.2.2.2.2.1), ((F_numberWithin f n ((F_passOnce f n rs a w).1) 0 20).1), (((F_passOnce f n rs a w).2).2.2.2.2.2.2.2.2.2.2.2.1), (((F_passOnce f n rs a w).2).2.2.2.2.2.2.2.2.2.2.2.2.1), (((F_passOnce f n rs a w).2).2.2.2.2.2.2.2.2.2.2.2.2.2.1), (((F_passOnce f n rs a w).2).2.2.2.2.2.2.2.2.2.2.2.2.2.2.1), (((F_passOnce f n rs a w).2).2.2.2.2.2.2.2.2.2.2.2.2.2.2.2.1), (((F_passOnce f n rs a w).2).2.2.2.2.2.2.2.2.2.2.2.2.2.2.2.2.1), (((F_passOnce f n rs a w).2).2.2.2.2.2.2.2.2.2.2.2.2.2.2.2.2.2))) ++ [(rr, .inr (5, [.ref h, .ref rl, .ref ab, .int mn, .int ((F_passSign f n ((F_numberWithin f n ((F_passOnce f n rs a w).1) 0 20).2) 59).1)]))] ++ (tWd γ h hg n f ((F_passSign f n ((F_numberWithin f n ((F_passOnce f n rs a w).1) 0 20).2) 59).2.1) ((F_passSign f n ((F_numberWithin f n ((F_passOnce f n rs a w).1) 0 20).2) 59).2.2.1) ((F_passSign f n ((F_numberWithin f n ((F_passOnce f n rs a w).1) 0 20).2) 59).2.2.2))) s H locs := hw
      refine W.eq (g2 := F0 m 73 ls []) rfl ?_
      have hE : (F_readSetting f n rs a w) = ((F_passSign f n ((F_numberWithin f n ((F_passOnce f n rs a w).1) 0 20).2) 59), ((((F_passOnce f n rs a w).2).1), (((F_passOnce f n rs a w).2).2.1), (((F_passOnce f n rs a w).2).2.2.1), (((F_passOnce f n rs a w).2).2.2.2.1), (((F_passOnce f n rs a w).2).2.2.2.2.1), (((F_passOnce f n rs a w).2).2.2.2.2.2.1), (((F_passOnce f n rs a w).2).2.2.2.2.2.2.1), (((F_passOnce f n rs a w).2).2.2.2.2.2.2.2.1), (((F_passOnce f n rs a w).2).2.2.2.2.2.2.2.2.1), (((F_passOnce f n rs a w).2).2.2.2.2.2.2.2.2.2.1), ((F_numberWithin f n ((F_passOnce f n rs a w).1) 0 20).1), (((F_passOnce f n rs a w).2).2.2.2.2.2.2.2.2.2.2.2.1), (((F_passOnce f n rs a w).2).2.2.2.2.2.2.2.2.2.2.2.2.1), (((F_passOnce f n rs a w).2).2.2.2.2.2.2.2.2.2.2.2.2.2.1), (((F_passOnce f n rs a w).2).2.2.2.2.2.2.2.2.2.2.2.2.2.2.1), (((F_passOnce f n rs a w).2).2.2.2.2.2.2.2.2.2.2.2.2.2.2.2.1), (((F_passOnce f n rs a w).2).2.2.2.2.2.2.2.2.2.2.2.2.2.2.2.2.1), (((F_passOnce f n rs a w).2).2.2.2.2.2.2.2.2.2.2.2.2.2.2.2.2.2))) := by unfold F_readSetting; rw [if_neg c_117, if_pos c_118]
      have hw : kW γ A ((aWd γ ab a0 a1 a2 a3 a4 a5 a6 a7 ((F_readSetting f n rs a w).2)) ++ [(rr, .inr (5, [.ref h, .ref rl, .ref ab, .int mn, .int (((F_readSetting f n rs a w).1).1)]))] ++ (tWd γ h hg n f (((F_readSetting f n rs a w).1).2.1) (((F_readSetting f n rs a w).1).2.2.1) (((F_readSetting f n rs a w).1).2.2.2))) s H locs := by first | (rw [hE]; exact hw) | exact hw
      exact k_vret hC hr hlocks hw [8, 9, 10, 0, 1, 2, 3, 4, 5, 6, 7] rfl rfl ⟨rfl, rfl⟩ (by decide) (by decide) dX5_readSetting_73
  · have c_117 : w = 7 := (k_weq hC hwd (by decide)).mp c_117
    refine lv_aload_n hx hb dX5_readSetting_12 rfl (lv_at hl 0 rfl) ?_
    refine fg_RX5_19 hC hw 0 rfl rfl dX5_readSetting_13 ?_
    refine lv_aload_n hx hb dX5_readSetting_16 rfl (lv_at hl 0 rfl) ?_
    refine lv_iconst (v := 2) hx hb dX5_readSetting_17 (by decide) ?_
    refine lv_bipush (v := 12) hx hb dX5_readSetting_18 (by decide) ?_
    refine k_V (wr := (aWd γ ab a0 a1 a2 a3 a4 a5 a6 a7 ((F_passOnce f n rs a w).2))) 2 gw_523 gw_525 gp_9 gw_14 gw_526 hd_X5_numberWithin hC hw (c_numberWithin γ l rr rl ab mn h hg n ((F_passOnce f n rs a w).1) f 2 12 hn hok) ⟨by decide, by decide⟩ ⟨by decide, by decide⟩ hl.1 rfl 0 rfl rfl rfl (Nat.le_of_ble_eq_true rfl) [0, 1, 2] [3, 4, 5, 6, 7, 8, 9, 10] rfl rfl rfl rfl (by decide) dX5_readSetting_20 (fun r w1 H locs hq hw => ?_)
    obtain ⟨rfl, rfl⟩ := hq
    have hw : kW γ A ((aWd γ ab a0 a1 a2 a3 a4 a5 a6 a7 ((F_passOnce f n rs a w).2)) ++ [(rr, .inr (5, [.ref h, .ref rl, .ref ab, .int mn, .int (((F_numberWithin f n ((F_passOnce f n rs a w).1) 2 12).2).1)]))] ++ (tWd γ h hg n f (((F_numberWithin f n ((F_passOnce f n rs a w).1) 2 12).2).2.1) (((F_numberWithin f n ((F_passOnce f n rs a w).1) 2 12).2).2.2.1) (((F_numberWithin f n ((F_passOnce f n rs a w).1) 2 12).2).2.2.2))) s H locs := hw
    refine W.eq (g2 := F0 m 23 ls [.int ((F_numberWithin f n ((F_passOnce f n rs a w).1) 2 12).1), .ref ab]) rfl ?_
    refine fs_RX5_183 hC hw 0 rfl rfl rfl (Nat.le_of_ble_eq_true rfl) dX5_readSetting_23 (fun H locs hw => ?_)
    have hw : kW γ A ((aWd γ ab a0 a1 a2 a3 a4 a5 a6 a7 ((((F_passOnce f n rs a w).2).1), (((F_passOnce f n rs a w).2).2.1), (((F_passOnce f n rs a w).2).2.2.1), (((F_passOnce f n rs a w).2).2.2.2.1), (((F_passOnce f n rs a w).2).2.2.2.2.1), (((F_passOnce f n rs a w).2).2.2.2.2.2.1), (((F_passOnce f n rs a w).2).2.2.2.2.2.2.1), (((F_passOnce f n rs a w).2).2.2.2.2.2.2.2.1), (((F_passOnce f n rs a w).2).2.2.2.2.2.2.2.2.1), ((F_numberWithin f n ((F_passOnce f n rs a w).1) 2 12).1), (((F_passOnce f n rs a w).2).2.2.2.2.2.2.2.2.2.2.1), (((F_passOnce f n rs a w).2).2.2.2.2.2.2.2.2.2.2.2.1), (((F_passOnce f n rs a w).2).2.2.2.2.2.2.2.2.2.2.2.2.1), (((F_passOnce f n rs a w).2).2.2.2.2.2.2.2.2.2.2.2.2.2.1), (((F_passOnce f n rs a w).2).2.2.2.2.2.2.2.2.2.2.2.2.2.2.1), (((F_passOnce f n rs a w).2).2.2.2.2.2.2.2.2.2.2.2.2.2.2.2.1), (((F_passOnce f n rs a w).2).2.2.2.2.2.2.2.2.2.2.2.2.2.2.2.2.1), (((F_passOnce f n rs a w).2).2.2.2.2.2.2.2.2.2.2.2.2.2.2.2.2.2))) ++ [(rr, .inr (5, [.ref h, .ref rl, .ref ab, .int mn, .int (((F_numberWithin f n ((F_passOnce f n rs a w).1) 2 12).2).1)]))] ++ (tWd γ h hg n f (((F_numberWithin f n ((F_passOnce f n rs a w).1) 2 12).2).2.1) (((F_numberWithin f n ((F_passOnce f n rs a w).1) 2 12).2).2.2.1) (((F_numberWithin f n ((F_passOnce f n rs a w).1) 2 12).2).2.2.2))) s H locs := hw
    refine lv_goto (tgt := 67) hx hb dX5_readSetting_26 (by decide) ?_
    refine lv_aload_n hx hb dX5_readSetting_67 rfl (lv_at hl 0 rfl) ?_
    refine lv_bipush (v := 59) hx hb dX5_readSetting_68 (by decide) ?_
    refine k_V (wr := (aWd γ ab a0 a1 a2 a3 a4 a5 a6 a7 ((((F_passOnce f n rs a w).2).1), (((F_passOnce f n rs a w).2).2.1), (((F_passOnce f n rs a w).2).2.2.1), (((F_passOnce f n rs a w).2).2.2.2.1), (((F_passOnce f n rs a w).2).2.2.2.2.1), (((F_passOnce f n rs a w).2).2.2.2.2.2.1), (((F_passOnce f n rs a w).2).2.2.2.2.2.2.1), (((F_passOnce f n rs a w).2).2.2.2.2.2.2.2.1), (((F_passOnce f n rs a w).2).2.2.2.2.2.2.2.2.1), ((F_numberWithin f n ((F_passOnce f n rs a w).1) 2 12).1), (((F_passOnce f n rs a w).2).2.2.2.2.2.2.2.2.2.2.1), (((F_passOnce f n rs a w).2).2.2.2.2.2.2.2.2.2.2.2.1), (((F_passOnce f n rs a w).2).2.2.2.2.2.2.2.2.2.2.2.2.1), (((F_passOnce f n rs a w).2).2.2.2.2.2.2.2.2.2.2.2.2.2.1), (((F_passOnce f n rs a w).2).2.2.2.2.2.2.2.2.2.2.2.2.2.2.1), (((F_passOnce f n rs a w).2).2.2.2.2.2.2.2.2.2.2.2.2.2.2.2.1), (((F_passOnce f n rs a w).2).2.2.2.2.2.2.2.2.2.2.2.2.2.2.2.2.1), (((F_passOnce f n rs a w).2).2.2.2.2.2.2.2.2.2.2.2.2.2.2.2.2.2)))) 1 gw_529 gw_531 gp_10 gw_14 gw_532 hd_X5_passSign hC hw (c_passSign γ l rr rl ab mn h hg n ((F_numberWithin f n ((F_passOnce f n rs a w).1) 2 12).2) f 59 hn hok) ⟨by decide, by decide⟩ ⟨by decide, by decide⟩ hl.1 rfl 8 rfl rfl rfl (Nat.le_of_ble_eq_true rfl) [8, 9, 10] [0, 1, 2, 3, 4, 5, 6, 7] rfl rfl rfl rfl (by decide) dX5_readSetting_70 (fun r w1 H locs hq hw => ?_)
    obtain ⟨rfl, rfl⟩ := hq
    have hw : kW γ A ((aWd γ ab a0 a1 a2 a3 a4 a5 a6 a7 ((((F_passOnce f n rs a w).2).1), (((F_passOnce f n rs a w).2).2.1), (((F_passOnce f n rs a w).2).2.2.1), (((F_passOnce f n rs a w).2).2.2.2.1), (((F_passOnce f n rs a w).2).2.2.2.2.1), (((F_passOnce f n rs a w).2).2.2.2.2.2.1), (((F_passOnce f n rs a w).2).2.2.2.2.2.2.1), (((F_passOnce f n rs a w).2).2.2.2.2.2.2.2.1), (((F_passOnce f n rs a w).2).2.2.2.2.2.2.2.2.1), ((F_numberWithin f n ((F_passOnce f n rs a w).1) 2 12).1), (((F_passOnce f n rs a w).2).2.2.2.2.2.2.2.2.2.2.1), (((F_passOnce f n rs a w).2).2.2.2.2.2.2.2.2.2.2.2.1), (((F_passOnce f n rs a w).2).2.2.2.2.2.2.2.2.2.2.2.2.1), (((F_passOnce f n rs a w).2).2.2.2.2.2.2.2.2.2.2.2.2.2.1), (((F_passOnce f n rs a w).2).2.2.2.2.2.2.2.2.2.2.2.2.2.2.1), (((F_passOnce f n rs a w).2).2.2.2.2.2.2.2.2.2.2.2.2.2.2.2.1), (((F_passOnce f n rs a w).2).2.2.2.2.2.2.2.2.2.2.2.2.2.2.2.2.1), (((F_passOnce f n rs a w).2).2.2.2.2.2.2.2.2.2.2.2.2.2.2.2.2.2))) ++ [(rr, .inr (5, [.ref h, .ref rl, .ref ab, .int mn, .int ((F_passSign f n ((F_numberWithin f n ((F_passOnce f n rs a w).1) 2 12).2) 59).1)]))] ++ (tWd γ h hg n f ((F_passSign f n ((F_numberWithin f n ((F_passOnce f n rs a w).1) 2 12).2) 59).2.1) ((F_passSign f n ((F_numberWithin f n ((F_passOnce f n rs a w).1) 2 12).2) 59).2.2.1) ((F_passSign f n ((F_numberWithin f n ((F_passOnce f n rs a w).1) 2 12).2) 59).2.2.2))) s H locs := hw
    refine W.eq (g2 := F0 m 73 ls []) rfl ?_
    have hE : (F_readSetting f n rs a w) = ((F_passSign f n ((F_numberWithin f n ((F_passOnce f n rs a w).1) 2 12).2) 59), ((((F_passOnce f n rs a w).2).1), (((F_passOnce f n rs a w).2).2.1), (((F_passOnce f n rs a w).2).2.2.1), (((F_passOnce f n rs a w).2).2.2.2.1), (((F_passOnce f n rs a w).2).2.2.2.2.1), (((F_passOnce f n rs a w).2).2.2.2.2.2.1), (((F_passOnce f n rs a w).2).2.2.2.2.2.2.1), (((F_passOnce f n rs a w).2).2.2.2.2.2.2.2.1), (((F_passOnce f n rs a w).2).2.2.2.2.2.2.2.2.1), ((F_numberWithin f n ((F_passOnce f n rs a w).1) 2 12).1), (((F_passOnce f n rs a w).2).2.2.2.2.2.2.2.2.2.2.1), (((F_passOnce f n rs a w).2).2.2.2.2.2.2.2.2.2.2.2.1), (((F_passOnce f n rs a w).2).2.2.2.2.2.2.2.2.2.2.2.2.1), (((F_passOnce f n rs a w).2).2.2.2.2.2.2.2.2.2.2.2.2.2.1), (((F_passOnce f n rs a w).2).2.2.2.2.2.2.2.2.2.2.2.2.2.2.1), (((F_passOnce f n rs a w).2).2.2.2.2.2.2.2.2.2.2.2.2.2.2.2.1), (((F_passOnce f n rs a w).2).2.2.2.2.2.2.2.2.2.2.2.2.2.2.2.2.1), (((F_passOnce f n rs a w).2).2.2.2.2.2.2.2.2.2.2.2.2.2.2.2.2.2))) := by unfold F_readSetting; rw [if_pos c_117]
    have hw : kW γ A ((aWd γ ab a0 a1 a2 a3 a4 a5 a6 a7 ((F_readSetting f n rs a w).2)) ++ [(rr, .inr (5, [.ref h, .ref rl, .ref ab, .int mn, .int (((F_readSetting f n rs a w).1).1)]))] ++ (tWd γ h hg n f (((F_readSetting f n rs a w).1).2.1) (((F_readSetting f n rs a w).1).2.2.1) (((F_readSetting f n rs a w).1).2.2.2))) s H locs := by first | (rw [hE]; exact hw) | exact hw
    exact k_vret hC hr hlocks hw [8, 9, 10, 0, 1, 2, 3, 4, 5, 6, 7] rfl rfl ⟨rfl, rfl⟩ (by decide) (by decide) dX5_readSetting_73


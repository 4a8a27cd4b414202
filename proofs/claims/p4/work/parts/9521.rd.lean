theorem dX5_fail_0 : decode cX5_fail 0 = .ok (.aload_n 0, 1) := by decide +kernel
theorem dX5_fail_1 : decode cX5_fail 1 = .ok (.getfield 91, 3) := by decide +kernel
theorem dX5_fail_4 : decode cX5_fail 4 = .ok (.ifCond .ne 19, 3) := by decide +kernel
theorem dX5_fail_7 : decode cX5_fail 7 = .ok (.aload_n 0, 1) := by decide +kernel
theorem dX5_fail_8 : decode cX5_fail 8 = .ok (.iload_n 1, 1) := by decide +kernel
theorem dX5_fail_9 : decode cX5_fail 9 = .ok (.bipush 16, 2) := by decide +kernel
theorem dX5_fail_11 : decode cX5_fail 11 = .ok (.aload_n 0, 1) := by decide +kernel
theorem dX5_fail_12 : decode cX5_fail 12 = .ok (.getfield 15, 3) := by decide +kernel
theorem dX5_fail_15 : decode cX5_fail 15 = .ok (.getfield 119, 3) := by decide +kernel
theorem dX5_fail_18 : decode cX5_fail 18 = .ok (.imul, 1) := by decide +kernel
theorem dX5_fail_19 : decode cX5_fail 19 = .ok (.iadd, 1) := by decide +kernel
theorem dX5_fail_20 : decode cX5_fail 20 = .ok (.putfield 91, 3) := by decide +kernel
theorem dX5_fail_23 : decode cX5_fail 23 = .ok (.return_, 1) := by decide +kernel
theorem dX5_passUnlessFault_0 : decode cX5_passUnlessFault 0 = .ok (.aload_n 0, 1) := by decide +kernel
theorem dX5_passUnlessFault_1 : decode cX5_passUnlessFault 1 = .ok (.getfield 91, 3) := by decide +kernel
theorem dX5_passUnlessFault_4 : decode cX5_passUnlessFault 4 = .ok (.ifCond .ne 10, 3) := by decide +kernel
theorem dX5_passUnlessFault_7 : decode cX5_passUnlessFault 7 = .ok (.aload_n 0, 1) := by decide +kernel
theorem dX5_passUnlessFault_8 : decode cX5_passUnlessFault 8 = .ok (.getfield 15, 3) := by decide +kernel
theorem dX5_passUnlessFault_11 : decode cX5_passUnlessFault 11 = .ok (.invokevirtual 125, 3) := by decide +kernel
theorem dX5_passUnlessFault_14 : decode cX5_passUnlessFault 14 = .ok (.return_, 1) := by decide +kernel
theorem dX5_passSign_0 : decode cX5_passSign 0 = .ok (.aload_n 0, 1) := by decide +kernel
theorem dX5_passSign_1 : decode cX5_passSign 1 = .ok (.getfield 15, 3) := by decide +kernel
theorem dX5_passSign_4 : decode cX5_passSign 4 = .ok (.getfield 116, 3) := by decide +kernel
theorem dX5_passSign_7 : decode cX5_passSign 7 = .ok (.iload_n 1, 1) := by decide +kernel
theorem dX5_passSign_8 : decode cX5_passSign 8 = .ok (.if_icmp .eq 11, 3) := by decide +kernel
theorem dX5_passSign_11 : decode cX5_passSign 11 = .ok (.aload_n 0, 1) := by decide +kernel
theorem dX5_passSign_12 : decode cX5_passSign 12 = .ok (.iconst 1, 1) := by decide +kernel
theorem dX5_passSign_13 : decode cX5_passSign 13 = .ok (.invokevirtual 84, 3) := by decide +kernel
theorem dX5_passSign_16 : decode cX5_passSign 16 = .ok (.goto 17, 3) := by decide +kernel
theorem dX5_passSign_19 : decode cX5_passSign 19 = .ok (.aload_n 0, 1) := by decide +kernel
theorem dX5_passSign_20 : decode cX5_passSign 20 = .ok (.getfield 91, 3) := by decide +kernel
theorem dX5_passSign_23 : decode cX5_passSign 23 = .ok (.ifCond .ne 10, 3) := by decide +kernel
theorem dX5_passSign_26 : decode cX5_passSign 26 = .ok (.aload_n 0, 1) := by decide +kernel
theorem dX5_passSign_27 : decode cX5_passSign 27 = .ok (.getfield 15, 3) := by decide +kernel
theorem dX5_passSign_30 : decode cX5_passSign 30 = .ok (.invokevirtual 125, 3) := by decide +kernel
theorem dX5_passSign_33 : decode cX5_passSign 33 = .ok (.return_, 1) := by decide +kernel
theorem dX5_passWord_0 : decode cX5_passWord 0 = .ok (.aload_n 0, 1) := by decide +kernel
theorem dX5_passWord_1 : decode cX5_passWord 1 = .ok (.getfield 15, 3) := by decide +kernel
theorem dX5_passWord_4 : decode cX5_passWord 4 = .ok (.getfield 36, 3) := by decide +kernel
theorem dX5_passWord_7 : decode cX5_passWord 7 = .ok (.aload_n 1, 1) := by decide +kernel
theorem dX5_passWord_8 : decode cX5_passWord 8 = .ok (.if_acmp .eq 11, 3) := by decide +kernel
theorem dX5_passWord_11 : decode cX5_passWord 11 = .ok (.aload_n 0, 1) := by decide +kernel
theorem dX5_passWord_12 : decode cX5_passWord 12 = .ok (.iconst 1, 1) := by decide +kernel
theorem dX5_passWord_13 : decode cX5_passWord 13 = .ok (.invokevirtual 84, 3) := by decide +kernel
theorem dX5_passWord_16 : decode cX5_passWord 16 = .ok (.goto 17, 3) := by decide +kernel
theorem dX5_passWord_19 : decode cX5_passWord 19 = .ok (.aload_n 0, 1) := by decide +kernel
theorem dX5_passWord_20 : decode cX5_passWord 20 = .ok (.getfield 91, 3) := by decide +kernel
theorem dX5_passWord_23 : decode cX5_passWord 23 = .ok (.ifCond .ne 10, 3) := by decide +kernel
theorem dX5_passWord_26 : decode cX5_passWord 26 = .ok (.aload_n 0, 1) := by decide +kernel
theorem dX5_passWord_27 : decode cX5_passWord 27 = .ok (.getfield 15, 3) := by decide +kernel
theorem dX5_passWord_30 : decode cX5_passWord 30 = .ok (.invokevirtual 125, 3) := by decide +kernel
theorem dX5_passWord_33 : decode cX5_passWord 33 = .ok (.return_, 1) := by decide +kernel
theorem dX5_goesOn_0 : decode cX5_goesOn 0 = .ok (.aload_n 0, 1) := by decide +kernel
theorem dX5_goesOn_1 : decode cX5_goesOn 1 = .ok (.getfield 91, 3) := by decide +kernel
theorem dX5_goesOn_4 : decode cX5_goesOn 4 = .ok (.ifCond .ne 17, 3) := by decide +kernel
theorem dX5_goesOn_7 : decode cX5_goesOn 7 = .ok (.aload_n 0, 1) := by decide +kernel
theorem dX5_goesOn_8 : decode cX5_goesOn 8 = .ok (.getfield 15, 3) := by decide +kernel
theorem dX5_goesOn_11 : decode cX5_goesOn 11 = .ok (.getfield 116, 3) := by decide +kernel
theorem dX5_goesOn_14 : decode cX5_goesOn 14 = .ok (.ifCond .eq 7, 3) := by decide +kernel
theorem dX5_goesOn_17 : decode cX5_goesOn 17 = .ok (.iconst 1, 1) := by decide +kernel
theorem dX5_goesOn_18 : decode cX5_goesOn 18 = .ok (.goto 4, 3) := by decide +kernel
theorem dX5_goesOn_21 : decode cX5_goesOn 21 = .ok (.iconst 0, 1) := by decide +kernel
theorem dX5_goesOn_22 : decode cX5_goesOn 22 = .ok (.ireturn, 1) := by decide +kernel
theorem dX5_numberWithin_0 : decode cX5_numberWithin 0 = .ok (.aload_n 0, 1) := by decide +kernel
theorem dX5_numberWithin_1 : decode cX5_numberWithin 1 = .ok (.getfield 15, 3) := by decide +kernel
theorem dX5_numberWithin_4 : decode cX5_numberWithin 4 = .ok (.getfield 238, 3) := by decide +kernel
theorem dX5_numberWithin_7 : decode cX5_numberWithin 7 = .ok (.istore_n 3, 1) := by decide +kernel
theorem dX5_numberWithin_8 : decode cX5_numberWithin 8 = .ok (.aload_n 0, 1) := by decide +kernel
theorem dX5_numberWithin_9 : decode cX5_numberWithin 9 = .ok (.getfield 15, 3) := by decide +kernel
theorem dX5_numberWithin_12 : decode cX5_numberWithin 12 = .ok (.getfield 116, 3) := by decide +kernel
theorem dX5_numberWithin_15 : decode cX5_numberWithin 15 = .ok (.iconst 2, 1) := by decide +kernel
theorem dX5_numberWithin_16 : decode cX5_numberWithin 16 = .ok (.if_icmp .eq 11, 3) := by decide +kernel
theorem dX5_numberWithin_19 : decode cX5_numberWithin 19 = .ok (.aload_n 0, 1) := by decide +kernel
theorem dX5_numberWithin_20 : decode cX5_numberWithin 20 = .ok (.iconst 1, 1) := by decide +kernel
theorem dX5_numberWithin_21 : decode cX5_numberWithin 21 = .ok (.invokevirtual 84, 3) := by decide +kernel
theorem dX5_numberWithin_24 : decode cX5_numberWithin 24 = .ok (.goto 18, 3) := by decide +kernel
theorem dX5_numberWithin_27 : decode cX5_numberWithin 27 = .ok (.iload_n 3, 1) := by decide +kernel
theorem dX5_numberWithin_28 : decode cX5_numberWithin 28 = .ok (.iload_n 1, 1) := by decide +kernel
theorem dX5_numberWithin_29 : decode cX5_numberWithin 29 = .ok (.if_icmp .lt 8, 3) := by decide +kernel
theorem dX5_numberWithin_32 : decode cX5_numberWithin 32 = .ok (.iload_n 3, 1) := by decide +kernel
theorem dX5_numberWithin_33 : decode cX5_numberWithin 33 = .ok (.iload_n 2, 1) := by decide +kernel
theorem dX5_numberWithin_34 : decode cX5_numberWithin 34 = .ok (.if_icmp .le 8, 3) := by decide +kernel
theorem dX5_numberWithin_37 : decode cX5_numberWithin 37 = .ok (.aload_n 0, 1) := by decide +kernel
theorem dX5_numberWithin_38 : decode cX5_numberWithin 38 = .ok (.iconst 4, 1) := by decide +kernel
theorem dX5_numberWithin_39 : decode cX5_numberWithin 39 = .ok (.invokevirtual 84, 3) := by decide +kernel
theorem dX5_numberWithin_42 : decode cX5_numberWithin 42 = .ok (.aload_n 0, 1) := by decide +kernel
theorem dX5_numberWithin_43 : decode cX5_numberWithin 43 = .ok (.invokevirtual 156, 3) := by decide +kernel
theorem dX5_numberWithin_46 : decode cX5_numberWithin 46 = .ok (.aload_n 0, 1) := by decide +kernel
theorem dX5_numberWithin_47 : decode cX5_numberWithin 47 = .ok (.getfield 91, 3) := by decide +kernel
theorem dX5_numberWithin_50 : decode cX5_numberWithin 50 = .ok (.ifCond .ne 7, 3) := by decide +kernel
theorem dX5_numberWithin_53 : decode cX5_numberWithin 53 = .ok (.iload_n 3, 1) := by decide +kernel
theorem dX5_numberWithin_54 : decode cX5_numberWithin 54 = .ok (.goto 4, 3) := by decide +kernel
theorem dX5_numberWithin_57 : decode cX5_numberWithin 57 = .ok (.iload_n 1, 1) := by decide +kernel
theorem dX5_numberWithin_58 : decode cX5_numberWithin 58 = .ok (.ireturn, 1) := by decide +kernel
theorem dX10_isKind_0 : decode cX10_isKind 0 = .ok (.aload_n 0, 1) := by decide +kernel
theorem dX10_isKind_1 : decode cX10_isKind 1 = .ok (.getstatic 51, 3) := by decide +kernel
theorem dX10_isKind_4 : decode cX10_isKind 4 = .ok (.if_acmp .eq 24, 3) := by decide +kernel
theorem dX10_isKind_7 : decode cX10_isKind 7 = .ok (.aload_n 0, 1) := by decide +kernel
theorem dX10_isKind_8 : decode cX10_isKind 8 = .ok (.getstatic 54, 3) := by decide +kernel
theorem dX10_isKind_11 : decode cX10_isKind 11 = .ok (.if_acmp .eq 17, 3) := by decide +kernel
theorem dX10_isKind_14 : decode cX10_isKind 14 = .ok (.aload_n 0, 1) := by decide +kernel
theorem dX10_isKind_15 : decode cX10_isKind 15 = .ok (.getstatic 57, 3) := by decide +kernel
theorem dX10_isKind_18 : decode cX10_isKind 18 = .ok (.if_acmp .eq 10, 3) := by decide +kernel
theorem dX10_isKind_21 : decode cX10_isKind 21 = .ok (.aload_n 0, 1) := by decide +kernel
theorem dX10_isKind_22 : decode cX10_isKind 22 = .ok (.getstatic 60, 3) := by decide +kernel
theorem dX10_isKind_25 : decode cX10_isKind 25 = .ok (.if_acmp .ne 7, 3) := by decide +kernel
theorem dX10_isKind_28 : decode cX10_isKind 28 = .ok (.iconst 1, 1) := by decide +kernel
theorem dX10_isKind_29 : decode cX10_isKind 29 = .ok (.goto 4, 3) := by decide +kernel
theorem dX10_isKind_32 : decode cX10_isKind 32 = .ok (.iconst 0, 1) := by decide +kernel
theorem dX10_isKind_33 : decode cX10_isKind 33 = .ok (.ireturn, 1) := by decide +kernel
theorem dX10_isFact_0 : decode cX10_isFact 0 = .ok (.aload_n 0, 1) := by decide +kernel
theorem dX10_isFact_1 : decode cX10_isFact 1 = .ok (.getstatic 72, 3) := by decide +kernel
theorem dX10_isFact_4 : decode cX10_isFact 4 = .ok (.if_acmp .eq 24, 3) := by decide +kernel
theorem dX10_isFact_7 : decode cX10_isFact 7 = .ok (.aload_n 0, 1) := by decide +kernel
theorem dX10_isFact_8 : decode cX10_isFact 8 = .ok (.getstatic 75, 3) := by decide +kernel
theorem dX10_isFact_11 : decode cX10_isFact 11 = .ok (.if_acmp .eq 17, 3) := by decide +kernel
theorem dX10_isFact_14 : decode cX10_isFact 14 = .ok (.aload_n 0, 1) := by decide +kernel
theorem dX10_isFact_15 : decode cX10_isFact 15 = .ok (.getstatic 78, 3) := by decide +kernel
theorem dX10_isFact_18 : decode cX10_isFact 18 = .ok (.if_acmp .eq 10, 3) := by decide +kernel
theorem dX10_isFact_21 : decode cX10_isFact 21 = .ok (.aload_n 0, 1) := by decide +kernel
theorem dX10_isFact_22 : decode cX10_isFact 22 = .ok (.getstatic 81, 3) := by decide +kernel
theorem dX10_isFact_25 : decode cX10_isFact 25 = .ok (.if_acmp .ne 7, 3) := by decide +kernel
theorem dX10_isFact_28 : decode cX10_isFact 28 = .ok (.iconst 1, 1) := by decide +kernel
theorem dX10_isFact_29 : decode cX10_isFact 29 = .ok (.goto 4, 3) := by decide +kernel
theorem dX10_isFact_32 : decode cX10_isFact 32 = .ok (.iconst 0, 1) := by decide +kernel
theorem dX10_isFact_33 : decode cX10_isFact 33 = .ok (.ireturn, 1) := by decide +kernel
theorem dX5_foundHere_0 : decode cX5_foundHere 0 = .ok (.aload_n 0, 1) := by decide +kernel
theorem dX5_foundHere_1 : decode cX5_foundHere 1 = .ok (.getfield 15, 3) := by decide +kernel
theorem dX5_foundHere_4 : decode cX5_foundHere 4 = .ok (.getfield 36, 3) := by decide +kernel
theorem dX5_foundHere_7 : decode cX5_foundHere 7 = .ok (.getfield 258, 3) := by decide +kernel
theorem dX5_foundHere_10 : decode cX5_foundHere 10 = .ok (.ifCond .ne 11, 3) := by decide +kernel
theorem dX5_foundHere_13 : decode cX5_foundHere 13 = .ok (.aload_n 0, 1) := by decide +kernel
theorem dX5_foundHere_14 : decode cX5_foundHere 14 = .ok (.iconst 1, 1) := by decide +kernel
theorem dX5_foundHere_15 : decode cX5_foundHere 15 = .ok (.invokevirtual 84, 3) := by decide +kernel
theorem dX5_foundHere_18 : decode cX5_foundHere 18 = .ok (.goto 13, 3) := by decide +kernel
theorem dX5_foundHere_21 : decode cX5_foundHere 21 = .ok (.iload_n 1, 1) := by decide +kernel
theorem dX5_foundHere_22 : decode cX5_foundHere 22 = .ok (.iconst (-1), 1) := by decide +kernel
theorem dX5_foundHere_23 : decode cX5_foundHere 23 = .ok (.if_icmp .ne 8, 3) := by decide +kernel
theorem dX5_foundHere_26 : decode cX5_foundHere 26 = .ok (.aload_n 0, 1) := by decide +kernel
theorem dX5_foundHere_27 : decode cX5_foundHere 27 = .ok (.iconst 2, 1) := by decide +kernel
theorem dX5_foundHere_28 : decode cX5_foundHere 28 = .ok (.invokevirtual 84, 3) := by decide +kernel
theorem dX5_foundHere_31 : decode cX5_foundHere 31 = .ok (.aload_n 0, 1) := by decide +kernel
theorem dX5_foundHere_32 : decode cX5_foundHere 32 = .ok (.getfield 91, 3) := by decide +kernel
theorem dX5_foundHere_35 : decode cX5_foundHere 35 = .ok (.ifCond .ne 7, 3) := by decide +kernel
theorem dX5_foundHere_38 : decode cX5_foundHere 38 = .ok (.iload_n 1, 1) := by decide +kernel
theorem dX5_foundHere_39 : decode cX5_foundHere 39 = .ok (.goto 4, 3) := by decide +kernel
theorem dX5_foundHere_42 : decode cX5_foundHere 42 = .ok (.iconst 0, 1) := by decide +kernel
theorem dX5_foundHere_43 : decode cX5_foundHere 43 = .ok (.ireturn, 1) := by decide +kernel
theorem dX5_operationHere_0 : decode cX5_operationHere 0 = .ok (.aload_n 0, 1) := by decide +kernel
theorem dX5_operationHere_1 : decode cX5_operationHere 1 = .ok (.getfield 15, 3) := by decide +kernel
theorem dX5_operationHere_4 : decode cX5_operationHere 4 = .ok (.getfield 116, 3) := by decide +kernel
theorem dX5_operationHere_7 : decode cX5_operationHere 7 = .ok (.lookupswitch 64 #[(42, 61), (43, 55), (45, 58), (60, 49), (61, 52)], 49) := by decide +kernel
theorem dX5_operationHere_56 : decode cX5_operationHere 56 = .ok (.bipush (-8), 2) := by decide +kernel
theorem dX5_operationHere_58 : decode cX5_operationHere 58 = .ok (.ireturn, 1) := by decide +kernel
theorem dX5_operationHere_59 : decode cX5_operationHere 59 = .ok (.bipush (-9), 2) := by decide +kernel
theorem dX5_operationHere_61 : decode cX5_operationHere 61 = .ok (.ireturn, 1) := by decide +kernel
theorem dX5_operationHere_62 : decode cX5_operationHere 62 = .ok (.bipush (-10), 2) := by decide +kernel
theorem dX5_operationHere_64 : decode cX5_operationHere 64 = .ok (.ireturn, 1) := by decide +kernel
theorem dX5_operationHere_65 : decode cX5_operationHere 65 = .ok (.bipush (-11), 2) := by decide +kernel
theorem dX5_operationHere_67 : decode cX5_operationHere 67 = .ok (.ireturn, 1) := by decide +kernel
theorem dX5_operationHere_68 : decode cX5_operationHere 68 = .ok (.bipush (-12), 2) := by decide +kernel
theorem dX5_operationHere_70 : decode cX5_operationHere 70 = .ok (.ireturn, 1) := by decide +kernel
theorem dX5_operationHere_71 : decode cX5_operationHere 71 = .ok (.aload_n 0, 1) := by decide +kernel
theorem dX5_operationHere_72 : decode cX5_operationHere 72 = .ok (.getfield 15, 3) := by decide +kernel
theorem dX5_operationHere_75 : decode cX5_operationHere 75 = .ok (.getfield 36, 3) := by decide +kernel
theorem dX5_operationHere_78 : decode cX5_operationHere 78 = .ok (.getstatic 226, 3) := by decide +kernel
theorem dX5_operationHere_81 : decode cX5_operationHere 81 = .ok (.if_acmp .eq 16, 3) := by decide +kernel
theorem dX5_operationHere_84 : decode cX5_operationHere 84 = .ok (.aload_n 0, 1) := by decide +kernel
theorem dX5_operationHere_85 : decode cX5_operationHere 85 = .ok (.getfield 15, 3) := by decide +kernel
theorem dX5_operationHere_88 : decode cX5_operationHere 88 = .ok (.getfield 36, 3) := by decide +kernel
theorem dX5_operationHere_91 : decode cX5_operationHere 91 = .ok (.getstatic 229, 3) := by decide +kernel
theorem dX5_operationHere_94 : decode cX5_operationHere 94 = .ok (.if_acmp .ne 16, 3) := by decide +kernel
theorem dX5_operationHere_97 : decode cX5_operationHere 97 = .ok (.aload_n 0, 1) := by decide +kernel
theorem dX5_operationHere_98 : decode cX5_operationHere 98 = .ok (.getfield 15, 3) := by decide +kernel
theorem dX5_operationHere_101 : decode cX5_operationHere 101 = .ok (.getfield 36, 3) := by decide +kernel
theorem dX5_operationHere_104 : decode cX5_operationHere 104 = .ok (.getfield 173, 3) := by decide +kernel
theorem dX5_operationHere_107 : decode cX5_operationHere 107 = .ok (.goto 4, 3) := by decide +kernel
theorem dX5_operationHere_110 : decode cX5_operationHere 110 = .ok (.iconst 0, 1) := by decide +kernel
theorem dX5_operationHere_111 : decode cX5_operationHere 111 = .ok (.ireturn, 1) := by decide +kernel
theorem dX5_levelOf_0 : decode cX5_levelOf 0 = .ok (.iload_n 0, 1) := by decide +kernel
theorem dX5_levelOf_1 : decode cX5_levelOf 1 = .ok (.tableswitch 51 (-12) (-6) #[49, 47, 47, 45, 45, 43, 43], 43) := by decide +kernel
theorem dX5_levelOf_44 : decode cX5_levelOf 44 = .ok (.iconst 0, 1) := by decide +kernel
theorem dX5_levelOf_45 : decode cX5_levelOf 45 = .ok (.ireturn, 1) := by decide +kernel
theorem dX5_levelOf_46 : decode cX5_levelOf 46 = .ok (.iconst 1, 1) := by decide +kernel
theorem dX5_levelOf_47 : decode cX5_levelOf 47 = .ok (.ireturn, 1) := by decide +kernel
theorem dX5_levelOf_48 : decode cX5_levelOf 48 = .ok (.iconst 2, 1) := by decide +kernel
theorem dX5_levelOf_49 : decode cX5_levelOf 49 = .ok (.ireturn, 1) := by decide +kernel
theorem dX5_levelOf_50 : decode cX5_levelOf 50 = .ok (.iconst 3, 1) := by decide +kernel
theorem dX5_levelOf_51 : decode cX5_levelOf 51 = .ok (.ireturn, 1) := by decide +kernel
theorem dX5_levelOf_52 : decode cX5_levelOf 52 = .ok (.iconst (-1), 1) := by decide +kernel
theorem dX5_levelOf_53 : decode cX5_levelOf 53 = .ok (.ireturn, 1) := by decide +kernel
def F_fail (f : Nat → Int32) (n : Nat) (rs : rRS) (k : Int32) : rRS :=
  if (rs.1) = 0 then ((k + (16 * (nI (ts f n (rs.2.1))))), (rs.2.1), (rs.2.2.1), (rs.2.2.2)) else rs
set_option maxHeartbeats 4000000 in
set_option maxRecDepth 100000 in
theorem c_fail (γ : kΓ) (l : Launch) (rr : Nat) (rl : Nat) (ab : Nat) (mn : Int32) (h : Nat) (hg : Nat) (n : Nat) (rs : rRS) (f : Nat → Int32) (k : Int32) (hn : n ≤ 1000) (hok : ∀ k, k < n → kok (f k) = true) : kM γ l yX5_fail cX5_fail 2 none ({ frames := 0, cells := 0, slots := 0, locals := 0 } : Room) [.ref rr, .int k] ([(rr, .inr (5, [.ref h, .ref rl, .ref ab, .int mn, .int (rs.1)]))] ++ (tWd γ h hg n f (rs.2.1) (rs.2.2.1) (rs.2.2.2))) (fun r w1 => r = none ∧ w1 = ([(rr, .inr (5, [.ref h, .ref rl, .ref ab, .int mn, .int ((F_fail f n rs k).1)]))] ++ (tWd γ h hg n f ((F_fail f n rs k).2.1) ((F_fail f n rs k).2.2.1) ((F_fail f n rs k).2.2.2)))) := by
  refine k_ofW (by decide) (Nat.le_of_ble_eq_true rfl) ?_
  intro p9 e s m below meth c A ls hC hr hlocks hname hw hl
  have hx := hC.1
  have hb := hC.2.1
  have hl : lv_has ls 2 [(0, .ref rr), (1, .int k)] := hl
  refine lv_aload_n hx hb dX5_fail_0 rfl (lv_at hl 0 rfl) ?_
  refine fg_RX5_91 hC hw 0 rfl rfl dX5_fail_1 ?_
  refine lv_if_ne (tgt := 23) hx hb dX5_fail_4 (by decide) (fun c_32 => ?_) (fun c_32 => ?_)
  · have hE : (F_fail f n rs k) = rs := by unfold F_fail; rw [if_neg c_32]
    have hw : kW γ A ([(rr, .inr (5, [.ref h, .ref rl, .ref ab, .int mn, .int ((F_fail f n rs k).1)]))] ++ (tWd γ h hg n f ((F_fail f n rs k).2.1) ((F_fail f n rs k).2.2.1) ((F_fail f n rs k).2.2.2))) s s.heap [] := by first | (rw [hE]; exact hw) | exact hw
    exact k_vret hC hr hlocks hw [0, 1, 2] rfl rfl ⟨rfl, rfl⟩ (by decide) (by decide) dX5_fail_23
  · refine lv_aload_n hx hb dX5_fail_7 rfl (lv_at hl 0 rfl) ?_
    refine lv_iload_n hx hb dX5_fail_8 rfl (lv_at hl 1 rfl) ?_
    refine lv_bipush (v := 16) hx hb dX5_fail_9 (by decide) ?_
    refine lv_aload_n hx hb dX5_fail_11 rfl (lv_at hl 0 rfl) ?_
    refine fg_RX5_15 hC hw 0 rfl rfl dX5_fail_12 ?_
    refine fg_RX5_119 hC hw 1 rfl rfl dX5_fail_15 ?_
    refine lv_imul hx hb dX5_fail_18 ?_
    refine lv_iadd hx hb dX5_fail_19 ?_
    refine fs_RX5_91 hC hw 0 rfl rfl rfl (Nat.le_of_ble_eq_true rfl) dX5_fail_20 (fun H locs hw => ?_)
    have hw : kW γ A ([(rr, .inr (5, [.ref h, .ref rl, .ref ab, .int mn, .int (k + (16 * (nI (ts f n (rs.2.1)))))]))] ++ (tWd γ h hg n f (rs.2.1) (rs.2.2.1) (rs.2.2.2))) s H locs := hw
    have hE : (F_fail f n rs k) = ((k + (16 * (nI (ts f n (rs.2.1))))), (rs.2.1), (rs.2.2.1), (rs.2.2.2)) := by unfold F_fail; rw [if_pos c_32]
    have hw : kW γ A ([(rr, .inr (5, [.ref h, .ref rl, .ref ab, .int mn, .int ((F_fail f n rs k).1)]))] ++ (tWd γ h hg n f ((F_fail f n rs k).2.1) ((F_fail f n rs k).2.2.1) ((F_fail f n rs k).2.2.2))) s H locs := by first | (rw [hE]; exact hw) | exact hw
    exact k_vret hC hr hlocks hw [0, 1, 2] rfl rfl ⟨rfl, rfl⟩ (by decide) (by decide) dX5_fail_23

def F_passUF (f : Nat → Int32) (n : Nat) (rs : rRS) : rRS :=
  if (rs.1) = 0 then (av f n rs) else rs
set_option maxHeartbeats 4000000 in
set_option maxRecDepth 100000 in
theorem c_passUF (γ : kΓ) (l : Launch) (rr : Nat) (rl : Nat) (ab : Nat) (mn : Int32) (h : Nat) (hg : Nat) (n : Nat) (rs : rRS) (f : Nat → Int32) (hn : n ≤ 1000) (hok : ∀ k, k < n → kok (f k) = true) : kM γ l yX5_passUnlessFault cX5_passUnlessFault 1 none ({ frames := 2, cells := 0, slots := 0, locals := 61 } : Room) [.ref rr] ([(rr, .inr (5, [.ref h, .ref rl, .ref ab, .int mn, .int (rs.1)]))] ++ (tWd γ h hg n f (rs.2.1) (rs.2.2.1) (rs.2.2.2))) (fun r w1 => r = none ∧ w1 = ([(rr, .inr (5, [.ref h, .ref rl, .ref ab, .int mn, .int ((F_passUF f n rs).1)]))] ++ (tWd γ h hg n f ((F_passUF f n rs).2.1) ((F_passUF f n rs).2.2.1) ((F_passUF f n rs).2.2.2)))) := by
  refine k_ofW (by decide) (Nat.le_of_ble_eq_true rfl) ?_
  intro p9 e s m below meth c A ls hC hr hlocks hname hw hl
  have hx := hC.1
  have hb := hC.2.1
  have hl : lv_has ls 1 [(0, .ref rr)] := hl
  refine lv_aload_n hx hb dX5_passUnlessFault_0 rfl (lv_at hl 0 rfl) ?_
  refine fg_RX5_91 hC hw 0 rfl rfl dX5_passUnlessFault_1 ?_
  refine lv_if_ne (tgt := 14) hx hb dX5_passUnlessFault_4 (by decide) (fun c_34 => ?_) (fun c_34 => ?_)
  · have hE : (F_passUF f n rs) = rs := by unfold F_passUF; rw [if_neg c_34]
    have hw : kW γ A ([(rr, .inr (5, [.ref h, .ref rl, .ref ab, .int mn, .int ((F_passUF f n rs).1)]))] ++ (tWd γ h hg n f ((F_passUF f n rs).2.1) ((F_passUF f n rs).2.2.1) ((F_passUF f n rs).2.2.2))) s s.heap [] := by first | (rw [hE]; exact hw) | exact hw
    exact k_vret hC hr hlocks hw [0, 1, 2] rfl rfl ⟨rfl, rfl⟩ (by decide) (by decide) dX5_passUnlessFault_14
  · refine lv_aload_n hx hb dX5_passUnlessFault_7 rfl (lv_at hl 0 rfl) ?_
    refine fg_RX5_15 hC hw 0 rfl rfl dX5_passUnlessFault_8 ?_
    refine k_V (wr := [(rr, .inr (5, [.ref h, .ref rl, .ref ab, .int mn, .int (rs.1)]))]) 0 gw_497 gw_461 gw_462 gw_2 gw_463 hd_X8_advance hC hw (c_av γ l h hg n rs f hn hok) ⟨by decide, by decide⟩ ⟨by decide, by decide⟩ hl.1 rfl 1 rfl rfl rfl (Nat.le_of_ble_eq_true rfl) [1, 2] [0] rfl rfl rfl rfl (by decide) dX5_passUnlessFault_11 (fun r w1 H locs hq hw => ?_)
    obtain ⟨rfl, rfl⟩ := hq
    have hw : kW γ A ([(rr, .inr (5, [.ref h, .ref rl, .ref ab, .int mn, .int (rs.1)]))] ++ (tWd γ h hg n f ((av f n rs).2.1) ((av f n rs).2.2.1) ((av f n rs).2.2.2))) s H locs := hw
    refine W.eq (g2 := F0 m 14 ls []) rfl ?_
    have hE : (F_passUF f n rs) = (av f n rs) := by unfold F_passUF; rw [if_pos c_34]
    have hw : kW γ A ([(rr, .inr (5, [.ref h, .ref rl, .ref ab, .int mn, .int ((F_passUF f n rs).1)]))] ++ (tWd γ h hg n f ((F_passUF f n rs).2.1) ((F_passUF f n rs).2.2.1) ((F_passUF f n rs).2.2.2))) s H locs := by first | (rw [hE]; exact hw) | exact hw
    exact k_vret hC hr hlocks hw [0, 1, 2] rfl rfl ⟨rfl, rfl⟩ (by decide) (by decide) dX5_passUnlessFault_14

def F_passSign (f : Nat → Int32) (n : Nat) (rs : rRS) (k : Int32) : rRS :=
  if (tk f n (rs.2.1)) = k then (if (rs.1) = 0 then (av f n rs) else rs) else (F_fail f n rs 1)
set_option maxHeartbeats 4000000 in
set_option maxRecDepth 100000 in
theorem c_passSign (γ : kΓ) (l : Launch) (rr : Nat) (rl : Nat) (ab : Nat) (mn : Int32) (h : Nat) (hg : Nat) (n : Nat) (rs : rRS) (f : Nat → Int32) (k : Int32) (hn : n ≤ 1000) (hok : ∀ k, k < n → kok (f k) = true) : kM γ l yX5_passSign cX5_passSign 2 none ({ frames := 2, cells := 0, slots := 0, locals := 61 } : Room) [.ref rr, .int k] ([(rr, .inr (5, [.ref h, .ref rl, .ref ab, .int mn, .int (rs.1)]))] ++ (tWd γ h hg n f (rs.2.1) (rs.2.2.1) (rs.2.2.2))) (fun r w1 => r = none ∧ w1 = ([(rr, .inr (5, [.ref h, .ref rl, .ref ab, .int mn, .int ((F_passSign f n rs k).1)]))] ++ (tWd γ h hg n f ((F_passSign f n rs k).2.1) ((F_passSign f n rs k).2.2.1) ((F_passSign f n rs k).2.2.2)))) := by
  refine k_ofW (by decide) (Nat.le_of_ble_eq_true rfl) ?_
  intro p9 e s m below meth c A ls hC hr hlocks hname hw hl
  have hx := hC.1
  have hb := hC.2.1
  have hl : lv_has ls 2 [(0, .ref rr), (1, .int k)] := hl
  refine lv_aload_n hx hb dX5_passSign_0 rfl (lv_at hl 0 rfl) ?_
  refine fg_RX5_15 hC hw 0 rfl rfl dX5_passSign_1 ?_
  refine fg_RX5_116 hC hw 1 rfl rfl dX5_passSign_4 ?_
  refine lv_iload_n hx hb dX5_passSign_7 rfl (lv_at hl 1 rfl) ?_
  refine lv_icmp_eq (tgt := 19) hx hb dX5_passSign_8 (by decide) (fun c_37 => ?_) (fun c_37 => ?_)
  · refine lv_aload_n hx hb dX5_passSign_19 rfl (lv_at hl 0 rfl) ?_
    refine fg_RX5_91 hC hw 0 rfl rfl dX5_passSign_20 ?_
    refine lv_if_ne (tgt := 33) hx hb dX5_passSign_23 (by decide) (fun c_38 => ?_) (fun c_38 => ?_)
    · have hE : (F_passSign f n rs k) = rs := by unfold F_passSign; rw [if_pos c_37, if_neg c_38]
      have hw : kW γ A ([(rr, .inr (5, [.ref h, .ref rl, .ref ab, .int mn, .int ((F_passSign f n rs k).1)]))] ++ (tWd γ h hg n f ((F_passSign f n rs k).2.1) ((F_passSign f n rs k).2.2.1) ((F_passSign f n rs k).2.2.2))) s s.heap [] := by first | (rw [hE]; exact hw) | exact hw
      exact k_vret hC hr hlocks hw [0, 1, 2] rfl rfl ⟨rfl, rfl⟩ (by decide) (by decide) dX5_passSign_33
    · refine lv_aload_n hx hb dX5_passSign_26 rfl (lv_at hl 0 rfl) ?_
      refine fg_RX5_15 hC hw 0 rfl rfl dX5_passSign_27 ?_
      refine k_V (wr := [(rr, .inr (5, [.ref h, .ref rl, .ref ab, .int mn, .int (rs.1)]))]) 0 gw_497 gw_461 gw_462 gw_2 gw_463 hd_X8_advance hC hw (c_av γ l h hg n rs f hn hok) ⟨by decide, by decide⟩ ⟨by decide, by decide⟩ hl.1 rfl 1 rfl rfl rfl (Nat.le_of_ble_eq_true rfl) [1, 2] [0] rfl rfl rfl rfl (by decide) dX5_passSign_30 (fun r w1 H locs hq hw => ?_)
      obtain ⟨rfl, rfl⟩ := hq
      have hw : kW γ A ([(rr, .inr (5, [.ref h, .ref rl, .ref ab, .int mn, .int (rs.1)]))] ++ (tWd γ h hg n f ((av f n rs).2.1) ((av f n rs).2.2.1) ((av f n rs).2.2.2))) s H locs := hw
      refine W.eq (g2 := F0 m 33 ls []) rfl ?_
      have hE : (F_passSign f n rs k) = (av f n rs) := by unfold F_passSign; rw [if_pos c_37, if_pos c_38]
      have hw : kW γ A ([(rr, .inr (5, [.ref h, .ref rl, .ref ab, .int mn, .int ((F_passSign f n rs k).1)]))] ++ (tWd γ h hg n f ((F_passSign f n rs k).2.1) ((F_passSign f n rs k).2.2.1) ((F_passSign f n rs k).2.2.2))) s H locs := by first | (rw [hE]; exact hw) | exact hw
      exact k_vret hC hr hlocks hw [0, 1, 2] rfl rfl ⟨rfl, rfl⟩ (by decide) (by decide) dX5_passSign_33
  · refine lv_aload_n hx hb dX5_passSign_11 rfl (lv_at hl 0 rfl) ?_
    refine lv_iconst (v := 1) hx hb dX5_passSign_12 (by decide) ?_
    refine k_V (wr := []) 1 gw_493 gw_495 gp_5 gw_14 gw_496 hd_X5_fail hC hw (c_fail γ l rr rl ab mn h hg n rs f 1 hn hok) ⟨by decide, by decide⟩ ⟨by decide, by decide⟩ hl.1 rfl 0 rfl rfl rfl (Nat.le_of_ble_eq_true rfl) [0, 1, 2] [] rfl rfl rfl rfl (by decide) dX5_passSign_13 (fun r w1 H locs hq hw => ?_)
    obtain ⟨rfl, rfl⟩ := hq
    have hw : kW γ A ([(rr, .inr (5, [.ref h, .ref rl, .ref ab, .int mn, .int ((F_fail f n rs 1).1)]))] ++ (tWd γ h hg n f ((F_fail f n rs 1).2.1) ((F_fail f n rs 1).2.2.1) ((F_fail f n rs 1).2.2.2))) s H locs := hw
    refine W.eq (g2 := F0 m 16 ls []) rfl ?_
    refine lv_goto (tgt := 33) hx hb dX5_passSign_16 (by decide) ?_
    have hE : (F_passSign f n rs k) = (F_fail f n rs 1) := by unfold F_passSign; rw [if_neg c_37]
    have hw : kW γ A ([(rr, .inr (5, [.ref h, .ref rl, .ref ab, .int mn, .int ((F_passSign f n rs k).1)]))] ++ (tWd γ h hg n f ((F_passSign f n rs k).2.1) ((F_passSign f n rs k).2.2.1) ((F_passSign f n rs k).2.2.2))) s H locs := by first | (rw [hE]; exact hw) | exact hw
    exact k_vret hC hr hlocks hw [0, 1, 2] rfl rfl ⟨rfl, rfl⟩ (by decide) (by decide) dX5_passSign_33

def F_passWord (f : Nat → Int32) (n : Nat) (rs : rRS) (w : Nat) : rRS :=
  if (tw f n (rs.2.1)) = w then (if (rs.1) = 0 then (av f n rs) else rs) else (F_fail f n rs 1)
set_option maxHeartbeats 4000000 in
set_option maxRecDepth 100000 in
theorem c_passWord (γ : kΓ) (l : Launch) (rr : Nat) (rl : Nat) (ab : Nat) (mn : Int32) (h : Nat) (hg : Nat) (n : Nat) (rs : rRS) (f : Nat → Int32) (w : Nat) (hn : n ≤ 1000) (hok : ∀ k, k < n → kok (f k) = true) (hwd : w < 26) : kM γ l yX5_passWord cX5_passWord 2 none ({ frames := 2, cells := 0, slots := 0, locals := 61 } : Room) [.ref rr, .ref (γ.2.2.2.2 w)] ([(rr, .inr (5, [.ref h, .ref rl, .ref ab, .int mn, .int (rs.1)]))] ++ (tWd γ h hg n f (rs.2.1) (rs.2.2.1) (rs.2.2.2))) (fun r w1 => r = none ∧ w1 = ([(rr, .inr (5, [.ref h, .ref rl, .ref ab, .int mn, .int ((F_passWord f n rs w).1)]))] ++ (tWd γ h hg n f ((F_passWord f n rs w).2.1) ((F_passWord f n rs w).2.2.1) ((F_passWord f n rs w).2.2.2)))) := by
  refine k_ofW (by decide) (Nat.le_of_ble_eq_true rfl) ?_
  intro p9 e s m below meth c A ls hC hr hlocks hname hw hl
  have hx := hC.1
  have hb := hC.2.1
  have hl : lv_has ls 2 [(0, .ref rr), (1, .ref (γ.2.2.2.2 w))] := hl
  refine lv_aload_n hx hb dX5_passWord_0 rfl (lv_at hl 0 rfl) ?_
  refine fg_RX5_15 hC hw 0 rfl rfl dX5_passWord_1 ?_
  refine fg_RX5_36 hC hw 1 rfl rfl dX5_passWord_4 ?_
  refine lv_aload_n hx hb dX5_passWord_7 rfl (lv_at hl 1 rfl) ?_
  refine lv_acmp_eq (rx := some (γ.2.2.2.2 (tw f n (rs.2.1)))) (ry := some (γ.2.2.2.2 w)) (tgt := 19) hx hb dX5_passWord_8 (by decide) (fun c_41 => ?_) (fun c_41 => ?_)
  · have c_41 : (tw f n (rs.2.1)) = w := (k_weq hC (tw_lt) hwd).mp c_41
    refine lv_aload_n hx hb dX5_passWord_19 rfl (lv_at hl 0 rfl) ?_
    refine fg_RX5_91 hC hw 0 rfl rfl dX5_passWord_20 ?_
    refine lv_if_ne (tgt := 33) hx hb dX5_passWord_23 (by decide) (fun c_42 => ?_) (fun c_42 => ?_)
    · have hE : (F_passWord f n rs w) = rs := by unfold F_passWord; rw [if_pos c_41, if_neg c_42]
      have hw : kW γ A ([(rr, .inr (5, [.ref h, .ref rl, .ref ab, .int mn, .int ((F_passWord f n rs w).1)]))] ++ (tWd γ h hg n f ((F_passWord f n rs w).2.1) ((F_passWord f n rs w).2.2.1) ((F_passWord f n rs w).2.2.2))) s s.heap [] := by first | (rw [hE]; exact hw) | exact hw
      exact k_vret hC hr hlocks hw [0, 1, 2] rfl rfl ⟨rfl, rfl⟩ (by decide) (by decide) dX5_passWord_33
    · refine lv_aload_n hx hb dX5_passWord_26 rfl (lv_at hl 0 rfl) ?_
      refine fg_RX5_15 hC hw 0 rfl rfl dX5_passWord_27 ?_
      refine k_V (wr := [(rr, .inr (5, [.ref h, .ref rl, .ref ab, .int mn, .int (rs.1)]))]) 0 gw_497 gw_461 gw_462 gw_2 gw_463 hd_X8_advance hC hw (c_av γ l h hg n rs f hn hok) ⟨by decide, by decide⟩ ⟨by decide, by decide⟩ hl.1 rfl 1 rfl rfl rfl (Nat.le_of_ble_eq_true rfl) [1, 2] [0] rfl rfl rfl rfl (by decide) dX5_passWord_30 (fun r w1 H locs hq hw => ?_)
      obtain ⟨rfl, rfl⟩ := hq
      have hw : kW γ A ([(rr, .inr (5, [.ref h, .ref rl, .ref ab, .int mn, .int (rs.1)]))] ++ (tWd γ h hg n f ((av f n rs).2.1) ((av f n rs).2.2.1) ((av f n rs).2.2.2))) s H locs := hw
      refine W.eq (g2 := F0 m 33 ls []) rfl ?_
      have hE : (F_passWord f n rs w) = (av f n rs) := by unfold F_passWord; rw [if_pos c_41, if_pos c_42]
      have hw : kW γ A ([(rr, .inr (5, [.ref h, .ref rl, .ref ab, .int mn, .int ((F_passWord f n rs w).1)]))] ++ (tWd γ h hg n f ((F_passWord f n rs w).2.1) ((F_passWord f n rs w).2.2.1) ((F_passWord f n rs w).2.2.2))) s H locs := by first | (rw [hE]; exact hw) | exact hw
      exact k_vret hC hr hlocks hw [0, 1, 2] rfl rfl ⟨rfl, rfl⟩ (by decide) (by decide) dX5_passWord_33
  · have c_41 : ¬ (tw f n (rs.2.1)) = w := fun h9 => c_41 ((k_weq hC (tw_lt) hwd).mpr h9)
    refine lv_aload_n hx hb dX5_passWord_11 rfl (lv_at hl 0 rfl) ?_
    refine lv_iconst (v := 1) hx hb dX5_passWord_12 (by decide) ?_
    refine k_V (wr := []) 1 gw_493 gw_495 gp_5 gw_14 gw_496 hd_X5_fail hC hw (c_fail γ l rr rl ab mn h hg n rs f 1 hn hok) ⟨by decide, by decide⟩ ⟨by decide, by decide⟩ hl.1 rfl 0 rfl rfl rfl (Nat.le_of_ble_eq_true rfl) [0, 1, 2] [] rfl rfl rfl rfl (by decide) dX5_passWord_13 (fun r w1 H locs hq hw => ?_)
    obtain ⟨rfl, rfl⟩ := hq
    have hw : kW γ A ([(rr, .inr (5, [.ref h, .ref rl, .ref ab, .int mn, .int ((F_fail f n rs 1).1)]))] ++ (tWd γ h hg n f ((F_fail f n rs 1).2.1) ((F_fail f n rs 1).2.2.1) ((F_fail f n rs 1).2.2.2))) s H locs := hw
    refine W.eq (g2 := F0 m 16 ls []) rfl ?_
    refine lv_goto (tgt := 33) hx hb dX5_passWord_16 (by decide) ?_
    have hE : (F_passWord f n rs w) = (F_fail f n rs 1) := by unfold F_passWord; rw [if_neg c_41]
    have hw : kW γ A ([(rr, .inr (5, [.ref h, .ref rl, .ref ab, .int mn, .int ((F_passWord f n rs w).1)]))] ++ (tWd γ h hg n f ((F_passWord f n rs w).2.1) ((F_passWord f n rs w).2.2.1) ((F_passWord f n rs w).2.2.2))) s H locs := by first | (rw [hE]; exact hw) | exact hw
    exact k_vret hC hr hlocks hw [0, 1, 2] rfl rfl ⟨rfl, rfl⟩ (by decide) (by decide) dX5_passWord_33

def F_goesOn (f : Nat → Int32) (n : Nat) (rs : rRS) : Int32 :=
  if (rs.1) = 0 then (if (tk f n (rs.2.1)) = 0 then 0 else 1) else 0
set_option maxHeartbeats 4000000 in
set_option maxRecDepth 100000 in
theorem c_goesOn (γ : kΓ) (l : Launch) (rr : Nat) (rl : Nat) (ab : Nat) (mn : Int32) (h : Nat) (hg : Nat) (n : Nat) (rs : rRS) (f : Nat → Int32) (hn : n ≤ 1000) (hok : ∀ k, k < n → kok (f k) = true) : kM γ l yX5_goesOn cX5_goesOn 1 ((some .boolean)) ({ frames := 0, cells := 0, slots := 0, locals := 0 } : Room) [.ref rr] ([(rr, .inr (5, [.ref h, .ref rl, .ref ab, .int mn, .int (rs.1)]))] ++ (tWd γ h hg n f (rs.2.1) (rs.2.2.1) (rs.2.2.2))) (fun r w1 => r = some (.int (F_goesOn f n rs)) ∧ w1 = ([(rr, .inr (5, [.ref h, .ref rl, .ref ab, .int mn, .int (rs.1)]))] ++ (tWd γ h hg n f (rs.2.1) (rs.2.2.1) (rs.2.2.2)))) := by
  refine k_ofW (by decide) (Nat.le_of_ble_eq_true rfl) ?_
  intro p9 e s m below meth c A ls hC hr hlocks hname hw hl
  have hx := hC.1
  have hb := hC.2.1
  have hl : lv_has ls 1 [(0, .ref rr)] := hl
  refine lv_aload_n hx hb dX5_goesOn_0 rfl (lv_at hl 0 rfl) ?_
  refine fg_RX5_91 hC hw 0 rfl rfl dX5_goesOn_1 ?_
  refine lv_if_ne (tgt := 21) hx hb dX5_goesOn_4 (by decide) (fun c_45 => ?_) (fun c_45 => ?_)
  · refine lv_iconst (v := 0) hx hb dX5_goesOn_21 (by decide) ?_
    have hE : (F_goesOn f n rs) = 0 := by unfold F_goesOn; rw [if_neg c_45]
    have hw : kW γ A ([(rr, .inr (5, [.ref h, .ref rl, .ref ab, .int mn, .int (rs.1)]))] ++ (tWd γ h hg n f (rs.2.1) (rs.2.2.1) (rs.2.2.2))) s s.heap [] := by first | (rw [hE]; exact hw) | exact hw
    exact k_zret hC hr hlocks rfl hw [0, 1, 2] rfl rfl ⟨by rw [hE], rfl⟩ (by decide) (by decide) dX5_goesOn_22
  · refine lv_aload_n hx hb dX5_goesOn_7 rfl (lv_at hl 0 rfl) ?_
    refine fg_RX5_15 hC hw 0 rfl rfl dX5_goesOn_8 ?_
    refine fg_RX5_116 hC hw 1 rfl rfl dX5_goesOn_11 ?_
    refine lv_if_eq (tgt := 21) hx hb dX5_goesOn_14 (by decide) (fun c_46 => ?_) (fun c_46 => ?_)
    · refine lv_iconst (v := 0) hx hb dX5_goesOn_21 (by decide) ?_
      have hE : (F_goesOn f n rs) = 0 := by unfold F_goesOn; rw [if_pos c_45, if_pos c_46]
      have hw : kW γ A ([(rr, .inr (5, [.ref h, .ref rl, .ref ab, .int mn, .int (rs.1)]))] ++ (tWd γ h hg n f (rs.2.1) (rs.2.2.1) (rs.2.2.2))) s s.heap [] := by first | (rw [hE]; exact hw) | exact hw
      exact k_zret hC hr hlocks rfl hw [0, 1, 2] rfl rfl ⟨by rw [hE], rfl⟩ (by decide) (by decide) dX5_goesOn_22
    · refine lv_iconst (v := 1) hx hb dX5_goesOn_17 (by decide) ?_
      refine lv_goto (tgt := 22) hx hb dX5_goesOn_18 (by decide) ?_
      have hE : (F_goesOn f n rs) = 1 := by unfold F_goesOn; rw [if_pos c_45, if_neg c_46]
      have hw : kW γ A ([(rr, .inr (5, [.ref h, .ref rl, .ref ab, .int mn, .int (rs.1)]))] ++ (tWd γ h hg n f (rs.2.1) (rs.2.2.1) (rs.2.2.2))) s s.heap [] := by first | (rw [hE]; exact hw) | exact hw
      exact k_zret hC hr hlocks rfl hw [0, 1, 2] rfl rfl ⟨by rw [hE], rfl⟩ (by decide) (by decide) dX5_goesOn_22

def F_numberWithin (f : Nat → Int32) (n : Nat) (rs : rRS) (lo : Int32) (hi : Int32) : Int32 × rRS :=
  if (tk f n (rs.2.1)) = 2 then (if (rs.2.2.1) < lo then (if ((F_passUF f n (F_fail f n rs 4)).1) = 0 then ((rs.2.2.1), (F_passUF f n (F_fail f n rs 4))) else (lo, (F_passUF f n (F_fail f n rs 4)))) else (if (rs.2.2.1) ≤ hi then (if ((F_passUF f n rs).1) = 0 then ((rs.2.2.1), (F_passUF f n rs)) else (lo, (F_passUF f n rs))) else (if ((F_passUF f n (F_fail f n rs 4)).1) = 0 then ((rs.2.2.1), (F_passUF f n (F_fail f n rs 4))) else (lo, (F_passUF f n (F_fail f n rs 4)))))) else (if ((F_passUF f n (F_fail f n rs 1)).1) = 0 then ((rs.2.2.1), (F_passUF f n (F_fail f n rs 1))) else (lo, (F_passUF f n (F_fail f n rs 1))))
set_option maxHeartbeats 4000000 in
set_option maxRecDepth 100000 in
theorem c_numberWithin (γ : kΓ) (l : Launch) (rr : Nat) (rl : Nat) (ab : Nat) (mn : Int32) (h : Nat) (hg : Nat) (n : Nat) (rs : rRS) (f : Nat → Int32) (lo : Int32) (hi : Int32) (hn : n ≤ 1000) (hok : ∀ k, k < n → kok (f k) = true) : kM γ l yX5_numberWithin cX5_numberWithin 4 ((some .int)) ({ frames := 3, cells := 0, slots := 0, locals := 81 } : Room) [.ref rr, .int lo, .int hi] ([(rr, .inr (5, [.ref h, .ref rl, .ref ab, .int mn, .int (rs.1)]))] ++ (tWd γ h hg n f (rs.2.1) (rs.2.2.1) (rs.2.2.2))) (fun r w1 => r = some (.int ((F_numberWithin f n rs lo hi).1)) ∧ w1 = ([(rr, .inr (5, [.ref h, .ref rl, .ref ab, .int mn, .int (((F_numberWithin f n rs lo hi).2).1)]))] ++ (tWd γ h hg n f (((F_numberWithin f n rs lo hi).2).2.1) (((F_numberWithin f n rs lo hi).2).2.2.1) (((F_numberWithin f n rs lo hi).2).2.2.2)))) := by
  refine k_ofW (by decide) (Nat.le_of_ble_eq_true rfl) ?_
  intro p9 e s m below meth c A ls hC hr hlocks hname hw hl
  have hx := hC.1
  have hb := hC.2.1
  have hl : lv_has ls 4 [(0, .ref rr), (1, .int lo), (2, .int hi)] := hl
  refine lv_aload_n hx hb dX5_numberWithin_0 rfl (lv_at hl 0 rfl) ?_
  refine fg_RX5_15 hC hw 0 rfl rfl dX5_numberWithin_1 ?_
  refine fg_RX5_238 hC hw 1 rfl rfl dX5_numberWithin_4 ?_
  refine lv_istore_n (lv' := [(3, .int (rs.2.2.1)), (0, .ref rr), (1, .int lo), (2, .int hi)]) hx hb dX5_numberWithin_7 rfl hl (by decide) rfl (fun ls hl => ?_)
  refine lv_aload_n hx hb dX5_numberWithin_8 rfl (lv_at hl 1 rfl) ?_
  refine fg_RX5_15 hC hw 0 rfl rfl dX5_numberWithin_9 ?_
  refine fg_RX5_116 hC hw 1 rfl rfl dX5_numberWithin_12 ?_
  refine lv_iconst (v := 2) hx hb dX5_numberWithin_15 (by decide) ?_
  refine lv_icmp_eq (tgt := 27) hx hb dX5_numberWithin_16 (by decide) (fun c_54 => ?_) (fun c_54 => ?_)
  · refine lv_iload_n hx hb dX5_numberWithin_27 rfl (lv_at hl 0 rfl) ?_
    refine lv_iload_n hx hb dX5_numberWithin_28 rfl (lv_at hl 2 rfl) ?_
    refine lv_icmp_lt (tgt := 37) hx hb dX5_numberWithin_29 (by decide) (fun c_55 => ?_) (fun c_55 => ?_)
    · refine lv_aload_n hx hb dX5_numberWithin_37 rfl (lv_at hl 1 rfl) ?_
      refine lv_iconst (v := 4) hx hb dX5_numberWithin_38 (by decide) ?_
      refine k_V (wr := []) 1 gw_493 gw_495 gp_5 gw_14 gw_496 hd_X5_fail hC hw (c_fail γ l rr rl ab mn h hg n rs f 4 hn hok) ⟨by decide, by decide⟩ ⟨by decide, by decide⟩ hl.1 rfl 0 rfl rfl rfl (Nat.le_of_ble_eq_true rfl) [0, 1, 2] [] rfl rfl rfl rfl (by decide) dX5_numberWithin_39 (fun r w1 H locs hq hw => ?_)
      obtain ⟨rfl, rfl⟩ := hq
      have hw : kW γ A ([(rr, .inr (5, [.ref h, .ref rl, .ref ab, .int mn, .int ((F_fail f n rs 4).1)]))] ++ (tWd γ h hg n f ((F_fail f n rs 4).2.1) ((F_fail f n rs 4).2.2.1) ((F_fail f n rs 4).2.2.2))) s H locs := hw
      refine W.eq (g2 := F0 m 42 ls []) rfl ?_
      refine lv_aload_n hx hb dX5_numberWithin_42 rfl (lv_at hl 1 rfl) ?_
      refine k_V (wr := []) 0 gw_513 gw_515 gp_7 gw_14 gw_516 hd_X5_passUnlessFault hC hw (c_passUF γ l rr rl ab mn h hg n (F_fail f n rs 4) f hn hok) ⟨by decide, by decide⟩ ⟨by decide, by decide⟩ hl.1 rfl 0 rfl rfl rfl (Nat.le_of_ble_eq_true rfl) [0, 1, 2] [] rfl rfl rfl rfl (by decide) dX5_numberWithin_43 (fun r w1 H locs hq hw => ?_)
      obtain ⟨rfl, rfl⟩ := hq
      have hw : kW γ A ([(rr, .inr (5, [.ref h, .ref rl, .ref ab, .int mn, .int ((F_passUF f n (F_fail f n rs 4)).1)]))] ++ (tWd γ h hg n f ((F_passUF f n (F_fail f n rs 4)).2.1) ((F_passUF f n (F_fail f n rs 4)).2.2.1) ((F_passUF f n (F_fail f n rs 4)).2.2.2))) s H locs := hw
      refine W.eq (g2 := F0 m 46 ls []) rfl ?_
      refine lv_aload_n hx hb dX5_numberWithin_46 rfl (lv_at hl 1 rfl) ?_
      refine fg_RX5_91 hC hw 0 rfl rfl dX5_numberWithin_47 ?_
      refine lv_if_ne (tgt := 57) hx hb dX5_numberWithin_50 (by decide) (fun c_56 => ?_) (fun c_56 => ?_)
      · refine lv_iload_n hx hb dX5_numberWithin_57 rfl (lv_at hl 2 rfl) ?_
        have hE : (F_numberWithin f n rs lo hi) = (lo, (F_passUF f n (F_fail f n rs 4))) := by unfold F_numberWithin; rw [if_pos c_54, if_pos c_55, if_neg c_56]
        have hw : kW γ A ([(rr, .inr (5, [.ref h, .ref rl, .ref ab, .int mn, .int (((F_numberWithin f n rs lo hi).2).1)]))] ++ (tWd γ h hg n f (((F_numberWithin f n rs lo hi).2).2.1) (((F_numberWithin f n rs lo hi).2).2.2.1) (((F_numberWithin f n rs lo hi).2).2.2.2))) s H locs := by first | (rw [hE]; exact hw) | exact hw
        exact k_iret hC hr hlocks hw [0, 1, 2] rfl rfl ⟨by rw [hE], rfl⟩ (by decide) (by decide) dX5_numberWithin_58
      · refine lv_iload_n hx hb dX5_numberWithin_53 rfl (lv_at hl 0 rfl) ?_
        refine lv_goto (tgt := 58) hx hb dX5_numberWithin_54 (by decide) ?_
        have hE : (F_numberWithin f n rs lo hi) = ((rs.2.2.1), (F_passUF f n (F_fail f n rs 4))) := by unfold F_numberWithin; rw [if_pos c_54, if_pos c_55, if_pos c_56]
        have hw : kW γ A ([(rr, .inr (5, [.ref h, .ref rl, .ref ab, .int mn, .int (((F_numberWithin f n rs lo hi).2).1)]))] ++ (tWd γ h hg n f (((F_numberWithin f n rs lo hi).2).2.1) (((F_numberWithin f n rs lo hi).2).2.2.1) (((F_numberWithin f n rs lo hi).2).2.2.2))) s H locs := by first | (rw [hE]; exact hw) | exact hw
        exact k_iret hC hr hlocks hw [0, 1, 2] rfl rfl ⟨by rw [hE], rfl⟩ (by decide) (by decide) dX5_numberWithin_58
    · refine lv_iload_n hx hb dX5_numberWithin_32 rfl (lv_at hl 0 rfl) ?_
      refine lv_iload_n hx hb dX5_numberWithin_33 rfl (lv_at hl 3 rfl) ?_
      refine lv_icmp_le (tgt := 42) hx hb dX5_numberWithin_34 (by decide) (fun c_57 => ?_) (fun c_57 => ?_)
      · refine lv_aload_n hx hb dX5_numberWithin_42 rfl (lv_at hl 1 rfl) ?_
        refine k_V (wr := []) 0 gw_513 gw_515 gp_7 gw_14 gw_516 hd_X5_passUnlessFault hC hw (c_passUF γ l rr rl ab mn h hg n rs f hn hok) ⟨by decide, by decide⟩ ⟨by decide, by decide⟩ hl.1 rfl 0 rfl rfl rfl (Nat.le_of_ble_eq_true rfl) [0, 1, 2] [] rfl rfl rfl rfl (by decide) dX5_numberWithin_43 (fun r w1 H locs hq hw => ?_)
        obtain ⟨rfl, rfl⟩ := hq
        have hw : kW γ A ([(rr, .inr (5, [.ref h, .ref rl, .ref ab, .int mn, .int ((F_passUF f n rs).1)]))] ++ (tWd γ h hg n f ((F_passUF f n rs).2.1) ((F_passUF f n rs).2.2.1) ((F_passUF f n rs).2.2.2))) s H locs := hw
        refine W.eq (g2 := F0 m 46 ls []) rfl ?_
        refine lv_aload_n hx hb dX5_numberWithin_46 rfl (lv_at hl 1 rfl) ?_
        refine fg_RX5_91 hC hw 0 rfl rfl dX5_numberWithin_47 ?_
        refine lv_if_ne (tgt := 57) hx hb dX5_numberWithin_50 (by decide) (fun c_58 => ?_) (fun c_58 => ?_)
        · refine lv_iload_n hx hb dX5_numberWithin_57 rfl (lv_at hl 2 rfl) ?_
          have hE : (F_numberWithin f n rs lo hi) = (lo, (F_passUF f n rs)) := by unfold F_numberWithin; rw [if_pos c_54, if_neg c_55, if_pos c_57, if_neg c_58]
          have hw : kW γ A ([(rr, .inr (5, [.ref h, .ref rl, .ref ab, .int mn, .int (((F_numberWithin f n rs lo hi).2).1)]))] ++ (tWd γ h hg n f (((F_numberWithin f n rs lo hi).2).2.1) (((F_numberWithin f n rs lo hi).2).2.2.1) (((F_numberWithin f n rs lo hi).2).2.2.2))) s H locs := by first | (rw [hE]; exact hw) | exact hw
          exact k_iret hC hr hlocks hw [0, 1, 2] rfl rfl ⟨by rw [hE], rfl⟩ (by decide) (by decide) dX5_numberWithin_58
        · refine lv_iload_n hx hb dX5_numberWithin_53 rfl (lv_at hl 0 rfl) ?_
          refine lv_goto (tgt := 58) hx hb dX5_numberWithin_54 (by decide) ?_
          have hE : (F_numberWithin f n rs lo hi) = ((rs.2.2.1), (F_passUF f n rs)) := by unfold F_numberWithin; rw [if_pos c_54, if_neg c_55, if_pos c_57, if_pos c_58]
          have hw : kW γ A ([(rr, .inr (5, [.ref h, .ref rl, .ref ab, .int mn, .int (((F_numberWithin f n rs lo hi).2).1)]))] ++ (tWd γ h hg n f (((F_numberWithin f n rs lo hi).2).2.1) (((F_numberWithin f n rs lo hi).2).2.2.1) (((F_numberWithin f n rs lo hi).2).2.2.2))) s H locs := by first | (rw [hE]; exact hw) | exact hw
          exact k_iret hC hr hlocks hw [0, 1, 2] rfl rfl ⟨by rw [hE], rfl⟩ (by decide) (by decide) dX5_numberWithin_58
      · refine lv_aload_n hx hb dX5_numberWithin_37 rfl (lv_at hl 1 rfl) ?_
        refine lv_iconst (v := 4) hx hb dX5_numberWithin_38 (by decide) ?_
        refine k_V (wr := []) 1 gw_493 gw_495 gp_5 gw_14 gw_496 hd_X5_fail hC hw (c_fail γ l rr rl ab mn h hg n rs f 4 hn hok) ⟨by decide, by decide⟩ ⟨by decide, by decide⟩ hl.1 rfl 0 rfl rfl rfl (Nat.le_of_ble_eq_true rfl) [0, 1, 2] [] rfl rfl rfl rfl (by decide) dX5_numberWithin_39 (fun r w1 H locs hq hw => ?_)
        obtain ⟨rfl, rfl⟩ := hq
        have hw : kW γ A ([(rr, .inr (5, [.ref h, .ref rl, .ref ab, .int mn, .int ((F_fail f n rs 4).1)]))] ++ (tWd γ h hg n f ((F_fail f n rs 4).2.1) ((F_fail f n rs 4).2.2.1) ((F_fail f n rs 4).2.2.2))) s H locs := hw
        refine W.eq (g2 := F0 m 42 ls []) rfl ?_
        refine lv_aload_n hx hb dX5_numberWithin_42 rfl (lv_at hl 1 rfl) ?_
        refine k_V (wr := []) 0 gw_513 gw_515 gp_7 gw_14 gw_516 hd_X5_passUnlessFault hC hw (c_passUF γ l rr rl ab mn h hg n (F_fail f n rs 4) f hn hok) ⟨by decide, by decide⟩ ⟨by decide, by decide⟩ hl.1 rfl 0 rfl rfl rfl (Nat.le_of_ble_eq_true rfl) [0, 1, 2] [] rfl rfl rfl rfl (by decide) dX5_numberWithin_43 (fun r w1 H locs hq hw => ?_)
        obtain ⟨rfl, rfl⟩ := hq
        have hw : kW γ A ([(rr, .inr (5, [.ref h, .ref rl, .ref ab, .int mn, .int ((F_passUF f n (F_fail f n rs 4)).1)]))] ++ (tWd γ h hg n f ((F_passUF f n (F_fail f n rs 4)).2.1) ((F_passUF f n (F_fail f n rs 4)).2.2.1) ((F_passUF f n (F_fail f n rs 4)).2.2.2))) s H locs := hw
        refine W.eq (g2 := F0 m 46 ls []) rfl ?_
        refine lv_aload_n hx hb dX5_numberWithin_46 rfl (lv_at hl 1 rfl) ?_
        refine fg_RX5_91 hC hw 0 rfl rfl dX5_numberWithin_47 ?_
        refine lv_if_ne (tgt := 57) hx hb dX5_numberWithin_50 (by decide) (fun c_59 => ?_) (fun c_59 => ?_)
        · refine lv_iload_n hx hb dX5_numberWithin_57 rfl (lv_at hl 2 rfl) ?_
          have hE : (F_numberWithin f n rs lo hi) = (lo, (F_passUF f n (F_fail f n rs 4))) := by unfold F_numberWithin; rw [if_pos c_54, if_neg c_55, if_neg c_57, if_neg c_59]
          have hw : kW γ A ([(rr, .inr (5, [.ref h, .ref rl, .ref ab, .int mn, .int (((F_numberWithin f n rs lo hi).2).1)]))] ++ (tWd γ h hg n f (((F_numberWithin f n rs lo hi).2).2.1) (((F_numberWithin f n rs lo hi).2).2.2.1) (((F_numberWithin f n rs lo hi).2).2.2.2))) s H locs := by first | (rw [hE]; exact hw) | exact hw
          exact k_iret hC hr hlocks hw [0, 1, 2] rfl rfl ⟨by rw [hE], rfl⟩ (by decide) (by decide) dX5_numberWithin_58
        · refine lv_iload_n hx hb dX5_numberWithin_53 rfl (lv_at hl 0 rfl) ?_
          refine lv_goto (tgt := 58) hx hb dX5_numberWithin_54 (by decide) ?_
          have hE : (F_numberWithin f n rs lo hi) = ((rs.2.2.1), (F_passUF f n (F_fail f n rs 4))) := by unfold F_numberWithin; rw [if_pos c_54, if_neg c_55, if_neg c_57, if_pos c_59]
          have hw : kW γ A ([(rr, .inr (5, [.ref h, .ref rl, .ref ab, .int mn, .int (((F_numberWithin f n rs lo hi).2).1)]))] ++ (tWd γ h hg n f (((F_numberWithin f n rs lo hi).2).2.1) (((F_numberWithin f n rs lo hi).2).2.2.1) (((F_numberWithin f n rs lo hi).2).2.2.2))) s H locs := by first | (rw [hE]; exact hw) | exact hw
          exact k_iret hC hr hlocks hw [0, 1, 2] rfl rfl ⟨by rw [hE], rfl⟩ (by decide) (by decide) dX5_numberWithin_58
  · refine lv_aload_n hx hb dX5_numberWithin_19 rfl (lv_at hl 1 rfl) ?_
    refine lv_iconst (v := 1) hx hb dX5_numberWithin_20 (by decide) ?_
    refine k_V (wr := []) 1 gw_493 gw_495 gp_5 gw_14 gw_496 hd_X5_fail hC hw (c_fail γ l rr rl ab mn h hg n rs f 1 hn hok) ⟨by decide, by decide⟩ ⟨by decide, by decide⟩ hl.1 rfl 0 rfl rfl rfl (Nat.le_of_ble_eq_true rfl) [0, 1, 2] [] rfl rfl rfl rfl (by decide) dX5_numberWithin_21 (fun r w1 H locs hq hw => ?_)
    obtain ⟨rfl, rfl⟩ := hq
    have hw : kW γ A ([(rr, .inr (5, [.ref h, .ref rl, .ref ab, .int mn, .int ((F_fail f n rs 1).1)]))] ++ (tWd γ h hg n f ((F_fail f n rs 1).2.1) ((F_fail f n rs 1).2.2.1) ((F_fail f n rs 1).2.2.2))) s H locs := hw
    refine W.eq (g2 := F0 m 24 ls []) rfl ?_
    refine lv_goto (tgt := 42) hx hb dX5_numberWithin_24 (by decide) ?_
    refine lv_aload_n hx hb dX5_numberWithin_42 rfl (lv_at hl 1 rfl) ?_
    refine k_V (wr := []) 0 gw_513 gw_515 gp_7 gw_14 gw_516 hd_X5_passUnlessFault hC hw (c_passUF γ l rr rl ab mn h hg n (F_fail f n rs 1) f hn hok) ⟨by decide, by decide⟩ ⟨by decide, by decide⟩ hl.1 rfl 0 rfl rfl rfl (Nat.le_of_ble_eq_true rfl) [0, 1, 2] [] rfl rfl rfl rfl (by decide) dX5_numberWithin_43 (fun r w1 H locs hq hw => ?_)
    obtain ⟨rfl, rfl⟩ := hq
    have hw : kW γ A ([(rr, .inr (5, [.ref h, .ref rl, .ref ab, .int mn, .int ((F_passUF f n (F_fail f n rs 1)).1)]))] ++ (tWd γ h hg n f ((F_passUF f n (F_fail f n rs 1)).2.1) ((F_passUF f n (F_fail f n rs 1)).2.2.1) ((F_passUF f n (F_fail f n rs 1)).2.2.2))) s H locs := hw
    refine W.eq (g2 := F0 m 46 ls []) rfl ?_
    refine lv_aload_n hx hb dX5_numberWithin_46 rfl (lv_at hl 1 rfl) ?_
    refine fg_RX5_91 hC hw 0 rfl rfl dX5_numberWithin_47 ?_
    refine lv_if_ne (tgt := 57) hx hb dX5_numberWithin_50 (by decide) (fun c_60 => ?_) (fun c_60 => ?_)
    · refine lv_iload_n hx hb dX5_numberWithin_57 rfl (lv_at hl 2 rfl) ?_
      have hE : (F_numberWithin f n rs lo hi) = (lo, (F_passUF f n (F_fail f n rs 1))) := by unfold F_numberWithin; rw [if_neg c_54, if_neg c_60]
      have hw : kW γ A ([(rr, .inr (5, [.ref h, .ref rl, .ref ab, .int mn, .int (((F_numberWithin f n rs lo hi).2).1)]))] ++ (tWd γ h hg n f (((F_numberWithin f n rs lo hi).2).2.1) (((F_numberWithin f n rs lo hi).2).2.2.1) (((F_numberWithin f n rs lo hi).2).2.2.2))) s H locs := by first | (rw [hE]; exact hw) | exact hw
      exact k_iret hC hr hlocks hw [0, 1, 2] rfl rfl ⟨by rw [hE], rfl⟩ (by decide) (by decide) dX5_numberWithin_58
    · refine lv_iload_n hx hb dX5_numberWithin_53 rfl (lv_at hl 0 rfl) ?_
      refine lv_goto (tgt := 58) hx hb dX5_numberWithin_54 (by decide) ?_
      have hE : (F_numberWithin f n rs lo hi) = ((rs.2.2.1), (F_passUF f n (F_fail f n rs 1))) := by unfold F_numberWithin; rw [if_neg c_54, if_pos c_60]
      have hw : kW γ A ([(rr, .inr (5, [.ref h, .ref rl, .ref ab, .int mn, .int (((F_numberWithin f n rs lo hi).2).1)]))] ++ (tWd γ h hg n f (((F_numberWithin f n rs lo hi).2).2.1) (((F_numberWithin f n rs lo hi).2).2.2.1) (((F_numberWithin f n rs lo hi).2).2.2.2))) s H locs := by first | (rw [hE]; exact hw) | exact hw
      exact k_iret hC hr hlocks hw [0, 1, 2] rfl rfl ⟨by rw [hE], rfl⟩ (by decide) (by decide) dX5_numberWithin_58

def F_isKind (w : Nat) : Int32 :=
  if w = 15 then 1 else (if w = 16 then 1 else (if w = 17 then 1 else (if w = 18 then 1 else 0)))
set_option maxHeartbeats 4000000 in
set_option maxRecDepth 100000 in
theorem c_isKind (γ : kΓ) (l : Launch) (w : Nat) (hwd : w < 26) : kM γ l yX10_isKind cX10_isKind 1 ((some .boolean)) ({ frames := 0, cells := 0, slots := 0, locals := 0 } : Room) [.ref (γ.2.2.2.2 w)] [] (fun r w1 => r = some (.int (F_isKind w)) ∧ w1 = []) := by
  refine k_ofW (by decide) (Nat.le_of_ble_eq_true rfl) ?_
  intro p9 e s m below meth c A ls hC hr hlocks hname hw hl
  have hx := hC.1
  have hb := hC.2.1
  have hl : lv_has ls 1 [(0, .ref (γ.2.2.2.2 w))] := hl
  refine lv_aload_n hx hb dX10_isKind_0 rfl (lv_at hl 0 rfl) ?_
  refine k_word hC hw (n := 15) (by decide) gw_572 dX10_isKind_1 ?_
  refine lv_acmp_eq (rx := some (γ.2.2.2.2 w)) (ry := some (γ.2.2.2.2 15)) (tgt := 28) hx hb dX10_isKind_4 (by decide) (fun c_65 => ?_) (fun c_65 => ?_)
  · have c_65 : w = 15 := (k_weq hC hwd (by decide)).mp c_65
    refine lv_iconst (v := 1) hx hb dX10_isKind_28 (by decide) ?_
    refine lv_goto (tgt := 33) hx hb dX10_isKind_29 (by decide) ?_
    have hE : (F_isKind w) = 1 := by unfold F_isKind; rw [if_pos c_65]
    have hw : kW γ A [] s s.heap [] := by first | (rw [hE]; exact hw) | exact hw
    exact k_zret hC hr hlocks rfl hw [] rfl rfl ⟨by rw [hE], rfl⟩ (by decide) (by decide) dX10_isKind_33
  · have c_65 : ¬ w = 15 := fun h9 => c_65 ((k_weq hC hwd (by decide)).mpr h9)
    refine lv_aload_n hx hb dX10_isKind_7 rfl (lv_at hl 0 rfl) ?_
    refine k_word hC hw (n := 16) (by decide) gw_574 dX10_isKind_8 ?_
    refine lv_acmp_eq (rx := some (γ.2.2.2.2 w)) (ry := some (γ.2.2.2.2 16)) (tgt := 28) hx hb dX10_isKind_11 (by decide) (fun c_66 => ?_) (fun c_66 => ?_)
    · have c_66 : w = 16 := (k_weq hC hwd (by decide)).mp c_66
      refine lv_iconst (v := 1) hx hb dX10_isKind_28 (by decide) ?_
      refine lv_goto (tgt := 33) hx hb dX10_isKind_29 (by decide) ?_
      have hE : (F_isKind w) = 1 := by unfold F_isKind; rw [if_neg c_65, if_pos c_66]
      have hw : kW γ A [] s s.heap [] := by first | (rw [hE]; exact hw) | exact hw
      exact k_zret hC hr hlocks rfl hw [] rfl rfl ⟨by rw [hE], rfl⟩ (by decide) (by decide) dX10_isKind_33
    · have c_66 : ¬ w = 16 := fun h9 => c_66 ((k_weq hC hwd (by decide)).mpr h9)
      refine lv_aload_n hx hb dX10_isKind_14 rfl (lv_at hl 0 rfl) ?_
      refine k_word hC hw (n := 17) (by decide) gw_576 dX10_isKind_15 ?_
      refine lv_acmp_eq (rx := some (γ.2.2.2.2 w)) (ry := some (γ.2.2.2.2 17)) (tgt := 28) hx hb dX10_isKind_18 (by decide) (fun c_67 => ?_) (fun c_67 => ?_)
      · have c_67 : w = 17 := (k_weq hC hwd (by decide)).mp c_67
        refine lv_iconst (v := 1) hx hb dX10_isKind_28 (by decide) ?_
        refine lv_goto (tgt := 33) hx hb dX10_isKind_29 (by decide) ?_
        have hE : (F_isKind w) = 1 := by unfold F_isKind; rw [if_neg c_65, if_neg c_66, if_pos c_67]
        have hw : kW γ A [] s s.heap [] := by first | (rw [hE]; exact hw) | exact hw
        exact k_zret hC hr hlocks rfl hw [] rfl rfl ⟨by rw [hE], rfl⟩ (by decide) (by decide) dX10_isKind_33
      · have c_67 : ¬ w = 17 := fun h9 => c_67 ((k_weq hC hwd (by decide)).mpr h9)
        refine lv_aload_n hx hb dX10_isKind_21 rfl (lv_at hl 0 rfl) ?_
        refine k_word hC hw (n := 18) (by decide) gw_578 dX10_isKind_22 ?_
        refine lv_acmp_ne (rx := some (γ.2.2.2.2 w)) (ry := some (γ.2.2.2.2 18)) (tgt := 32) hx hb dX10_isKind_25 (by decide) (fun c_68 => ?_) (fun c_68 => ?_)
        · have c_68 : ¬ w = 18 := fun h9 => c_68 ((k_weq hC hwd (by decide)).mpr h9)
          refine lv_iconst (v := 0) hx hb dX10_isKind_32 (by decide) ?_
          have hE : (F_isKind w) = 0 := by unfold F_isKind; rw [if_neg c_65, if_neg c_66, if_neg c_67, if_neg c_68]
          have hw : kW γ A [] s s.heap [] := by first | (rw [hE]; exact hw) | exact hw
          exact k_zret hC hr hlocks rfl hw [] rfl rfl ⟨by rw [hE], rfl⟩ (by decide) (by decide) dX10_isKind_33
        · have c_68 : w = 18 := (k_weq hC hwd (by decide)).mp c_68
          refine lv_iconst (v := 1) hx hb dX10_isKind_28 (by decide) ?_
          refine lv_goto (tgt := 33) hx hb dX10_isKind_29 (by decide) ?_
          have hE : (F_isKind w) = 1 := by unfold F_isKind; rw [if_neg c_65, if_neg c_66, if_neg c_67, if_pos c_68]
          have hw : kW γ A [] s s.heap [] := by first | (rw [hE]; exact hw) | exact hw
          exact k_zret hC hr hlocks rfl hw [] rfl rfl ⟨by rw [hE], rfl⟩ (by decide) (by decide) dX10_isKind_33

def F_isFact (w : Nat) : Int32 :=
  if w = 22 then 1 else (if w = 23 then 1 else (if w = 24 then 1 else (if w = 25 then 1 else 0)))
set_option maxHeartbeats 4000000 in
set_option maxRecDepth 100000 in
theorem c_isFact (γ : kΓ) (l : Launch) (w : Nat) (hwd : w < 26) : kM γ l yX10_isFact cX10_isFact 1 ((some .boolean)) ({ frames := 0, cells := 0, slots := 0, locals := 0 } : Room) [.ref (γ.2.2.2.2 w)] [] (fun r w1 => r = some (.int (F_isFact w)) ∧ w1 = []) := by
  refine k_ofW (by decide) (Nat.le_of_ble_eq_true rfl) ?_
  intro p9 e s m below meth c A ls hC hr hlocks hname hw hl
  have hx := hC.1
  have hb := hC.2.1
  have hl : lv_has ls 1 [(0, .ref (γ.2.2.2.2 w))] := hl
  refine lv_aload_n hx hb dX10_isFact_0 rfl (lv_at hl 0 rfl) ?_
  refine k_word hC hw (n := 22) (by decide) gw_618 dX10_isFact_1 ?_
  refine lv_acmp_eq (rx := some (γ.2.2.2.2 w)) (ry := some (γ.2.2.2.2 22)) (tgt := 28) hx hb dX10_isFact_4 (by decide) (fun c_73 => ?_) (fun c_73 => ?_)
  · have c_73 : w = 22 := (k_weq hC hwd (by decide)).mp c_73
    refine lv_iconst (v := 1) hx hb dX10_isFact_28 (by decide) ?_
    refine lv_goto (tgt := 33) hx hb dX10_isFact_29 (by decide) ?_
    have hE : (F_isFact w) = 1 := by unfold F_isFact; rw [if_pos c_73]
    have hw : kW γ A [] s s.heap [] := by first | (rw [hE]; exact hw) | exact hw
    exact k_zret hC hr hlocks rfl hw [] rfl rfl ⟨by rw [hE], rfl⟩ (by decide) (by decide) dX10_isFact_33
  · have c_73 : ¬ w = 22 := fun h9 => c_73 ((k_weq hC hwd (by decide)).mpr h9)
    refine lv_aload_n hx hb dX10_isFact_7 rfl (lv_at hl 0 rfl) ?_
    refine k_word hC hw (n := 23) (by decide) gw_620 dX10_isFact_8 ?_
    refine lv_acmp_eq (rx := some (γ.2.2.2.2 w)) (ry := some (γ.2.2.2.2 23)) (tgt := 28) hx hb dX10_isFact_11 (by decide) (fun c_74 => ?_) (fun c_74 => ?_)
    · have c_74 : w = 23 := (k_weq hC hwd (by decide)).mp c_74
      refine lv_iconst (v := 1) hx hb dX10_isFact_28 (by decide) ?_
      refine lv_goto (tgt := 33) hx hb dX10_isFact_29 (by decide) ?_
      have hE : (F_isFact w) = 1 := by unfold F_isFact; rw [if_neg c_73, if_pos c_74]
      have hw : kW γ A [] s s.heap [] := by first | (rw [hE]; exact hw) | exact hw
      exact k_zret hC hr hlocks rfl hw [] rfl rfl ⟨by rw [hE], rfl⟩ (by decide) (by decide) dX10_isFact_33
    · have c_74 : ¬ w = 23 := fun h9 => c_74 ((k_weq hC hwd (by decide)).mpr h9)
      refine lv_aload_n hx hb dX10_isFact_14 rfl (lv_at hl 0 rfl) ?_
      refine k_word hC hw (n := 24) (by decide) gw_622 dX10_isFact_15 ?_
      refine lv_acmp_eq (rx := some (γ.2.2.2.2 w)) (ry := some (γ.2.2.2.2 24)) (tgt := 28) hx hb dX10_isFact_18 (by decide) (fun c_75 => ?_) (fun c_75 => ?_)
      · have c_75 : w = 24 := (k_weq hC hwd (by decide)).mp c_75
        refine lv_iconst (v := 1) hx hb dX10_isFact_28 (by decide) ?_
        refine lv_goto (tgt := 33) hx hb dX10_isFact_29 (by decide) ?_
        have hE : (F_isFact w) = 1 := by unfold F_isFact; rw [if_neg c_73, if_neg c_74, if_pos c_75]
        have hw : kW γ A [] s s.heap [] := by first | (rw [hE]; exact hw) | exact hw
        exact k_zret hC hr hlocks rfl hw [] rfl rfl ⟨by rw [hE], rfl⟩ (by decide) (by decide) dX10_isFact_33
      · have c_75 : ¬ w = 24 := fun h9 => c_75 ((k_weq hC hwd (by decide)).mpr h9)
        refine lv_aload_n hx hb dX10_isFact_21 rfl (lv_at hl 0 rfl) ?_
        refine k_word hC hw (n := 25) (by decide) gw_624 dX10_isFact_22 ?_
        refine lv_acmp_ne (rx := some (γ.2.2.2.2 w)) (ry := some (γ.2.2.2.2 25)) (tgt := 32) hx hb dX10_isFact_25 (by decide) (fun c_76 => ?_) (fun c_76 => ?_)
        · have c_76 : ¬ w = 25 := fun h9 => c_76 ((k_weq hC hwd (by decide)).mpr h9)
          refine lv_iconst (v := 0) hx hb dX10_isFact_32 (by decide) ?_
          have hE : (F_isFact w) = 0 := by unfold F_isFact; rw [if_neg c_73, if_neg c_74, if_neg c_75, if_neg c_76]
          have hw : kW γ A [] s s.heap [] := by first | (rw [hE]; exact hw) | exact hw
          exact k_zret hC hr hlocks rfl hw [] rfl rfl ⟨by rw [hE], rfl⟩ (by decide) (by decide) dX10_isFact_33
        · have c_76 : w = 25 := (k_weq hC hwd (by decide)).mp c_76
          refine lv_iconst (v := 1) hx hb dX10_isFact_28 (by decide) ?_
          refine lv_goto (tgt := 33) hx hb dX10_isFact_29 (by decide) ?_
          have hE : (F_isFact w) = 1 := by unfold F_isFact; rw [if_neg c_73, if_neg c_74, if_neg c_75, if_pos c_76]
          have hw : kW γ A [] s s.heap [] := by first | (rw [hE]; exact hw) | exact hw
          exact k_zret hC hr hlocks rfl hw [] rfl rfl ⟨by rw [hE], rfl⟩ (by decide) (by decide) dX10_isFact_33

def F_foundHere (f : Nat → Int32) (n : Nat) (rs : rRS) (k : Int32) : Int32 × rRS :=
  if (kWm.getD (tw f n (rs.2.1)) 0) = 0 then (if ((F_fail f n rs 1).1) = 0 then (k, (F_fail f n rs 1)) else (0, (F_fail f n rs 1))) else (if k = (-1) then (if ((F_fail f n rs 2).1) = 0 then (k, (F_fail f n rs 2)) else (0, (F_fail f n rs 2))) else (if (rs.1) = 0 then (k, rs) else (0, rs)))
set_option maxHeartbeats 4000000 in
set_option maxRecDepth 100000 in
theorem c_foundHere (γ : kΓ) (l : Launch) (rr : Nat) (rl : Nat) (ab : Nat) (mn : Int32) (h : Nat) (hg : Nat) (n : Nat) (rs : rRS) (f : Nat → Int32) (k : Int32) (hn : n ≤ 1000) (hok : ∀ k, k < n → kok (f k) = true) : kM γ l yX5_foundHere cX5_foundHere 2 ((some .int)) ({ frames := 1, cells := 0, slots := 0, locals := 21 } : Room) [.ref rr, .int k] ([(rr, .inr (5, [.ref h, .ref rl, .ref ab, .int mn, .int (rs.1)]))] ++ (tWd γ h hg n f (rs.2.1) (rs.2.2.1) (rs.2.2.2))) (fun r w1 => r = some (.int ((F_foundHere f n rs k).1)) ∧ w1 = ([(rr, .inr (5, [.ref h, .ref rl, .ref ab, .int mn, .int (((F_foundHere f n rs k).2).1)]))] ++ (tWd γ h hg n f (((F_foundHere f n rs k).2).2.1) (((F_foundHere f n rs k).2).2.2.1) (((F_foundHere f n rs k).2).2.2.2)))) := by
  refine k_ofW (by decide) (Nat.le_of_ble_eq_true rfl) ?_
  intro p9 e s m below meth c A ls hC hr hlocks hname hw hl
  have hx := hC.1
  have hb := hC.2.1
  have hl : lv_has ls 2 [(0, .ref rr), (1, .int k)] := hl
  refine lv_aload_n hx hb dX5_foundHere_0 rfl (lv_at hl 0 rfl) ?_
  refine fg_RX5_15 hC hw 0 rfl rfl dX5_foundHere_1 ?_
  refine fg_RX5_36 hC hw 1 rfl rfl dX5_foundHere_4 ?_
  refine k_wordN hC hw (k_zw hC).2.2.1 (tw_lt) nw_1833 dX5_foundHere_7 ?_
  refine lv_if_ne (tgt := 21) hx hb dX5_foundHere_10 (by decide) (fun c_86 => ?_) (fun c_86 => ?_)
  · refine lv_iload_n hx hb dX5_foundHere_21 rfl (lv_at hl 1 rfl) ?_
    refine lv_iconst (v := (-1)) hx hb dX5_foundHere_22 (by decide) ?_
    refine lv_icmp_ne (tgt := 31) hx hb dX5_foundHere_23 (by decide) (fun c_87 => ?_) (fun c_87 => ?_)
    · refine lv_aload_n hx hb dX5_foundHere_31 rfl (lv_at hl 0 rfl) ?_
      refine fg_RX5_91 hC hw 0 rfl rfl dX5_foundHere_32 ?_
      refine lv_if_ne (tgt := 42) hx hb dX5_foundHere_35 (by decide) (fun c_88 => ?_) (fun c_88 => ?_)
      · refine lv_iconst (v := 0) hx hb dX5_foundHere_42 (by decide) ?_
        have hE : (F_foundHere f n rs k) = (0, rs) := by unfold F_foundHere; rw [if_neg c_86, if_neg c_87, if_neg c_88]
        have hw : kW γ A ([(rr, .inr (5, [.ref h, .ref rl, .ref ab, .int mn, .int (((F_foundHere f n rs k).2).1)]))] ++ (tWd γ h hg n f (((F_foundHere f n rs k).2).2.1) (((F_foundHere f n rs k).2).2.2.1) (((F_foundHere f n rs k).2).2.2.2))) s s.heap [] := by first | (rw [hE]; exact hw) | exact hw
        exact k_iret hC hr hlocks hw [0, 1, 2] rfl rfl ⟨by rw [hE], rfl⟩ (by decide) (by decide) dX5_foundHere_43
      · refine lv_iload_n hx hb dX5_foundHere_38 rfl (lv_at hl 1 rfl) ?_
        refine lv_goto (tgt := 43) hx hb dX5_foundHere_39 (by decide) ?_
        have hE : (F_foundHere f n rs k) = (k, rs) := by unfold F_foundHere; rw [if_neg c_86, if_neg c_87, if_pos c_88]
        have hw : kW γ A ([(rr, .inr (5, [.ref h, .ref rl, .ref ab, .int mn, .int (((F_foundHere f n rs k).2).1)]))] ++ (tWd γ h hg n f (((F_foundHere f n rs k).2).2.1) (((F_foundHere f n rs k).2).2.2.1) (((F_foundHere f n rs k).2).2.2.2))) s s.heap [] := by first | (rw [hE]; exact hw) | exact hw
        exact k_iret hC hr hlocks hw [0, 1, 2] rfl rfl ⟨by rw [hE], rfl⟩ (by decide) (by decide) dX5_foundHere_43
    · refine lv_aload_n hx hb dX5_foundHere_26 rfl (lv_at hl 0 rfl) ?_
      refine lv_iconst (v := 2) hx hb dX5_foundHere_27 (by decide) ?_
      refine k_V (wr := []) 1 gw_493 gw_495 gp_5 gw_14 gw_496 hd_X5_fail hC hw (c_fail γ l rr rl ab mn h hg n rs f 2 hn hok) ⟨by decide, by decide⟩ ⟨by decide, by decide⟩ hl.1 rfl 0 rfl rfl rfl (Nat.le_of_ble_eq_true rfl) [0, 1, 2] [] rfl rfl rfl rfl (by decide) dX5_foundHere_28 (fun r w1 H locs hq hw => ?_)
      obtain ⟨rfl, rfl⟩ := hq
      have hw : kW γ A ([(rr, .inr (5, [.ref h, .ref rl, .ref ab, .int mn, .int ((F_fail f n rs 2).1)]))] ++ (tWd γ h hg n f ((F_fail f n rs 2).2.1) ((F_fail f n rs 2).2.2.1) ((F_fail f n rs 2).2.2.2))) s H locs := hw
      refine W.eq (g2 := F0 m 31 ls []) rfl ?_
      refine lv_aload_n hx hb dX5_foundHere_31 rfl (lv_at hl 0 rfl) ?_
      refine fg_RX5_91 hC hw 0 rfl rfl dX5_foundHere_32 ?_
      refine lv_if_ne (tgt := 42) hx hb dX5_foundHere_35 (by decide) (fun c_89 => ?_) (fun c_89 => ?_)
      · refine lv_iconst (v := 0) hx hb dX5_foundHere_42 (by decide) ?_
        have hE : (F_foundHere f n rs k) = (0, (F_fail f n rs 2)) := by unfold F_foundHere; rw [if_neg c_86, if_pos c_87, if_neg c_89]
        have hw : kW γ A ([(rr, .inr (5, [.ref h, .ref rl, .ref ab, .int mn, .int (((F_foundHere f n rs k).2).1)]))] ++ (tWd γ h hg n f (((F_foundHere f n rs k).2).2.1) (((F_foundHere f n rs k).2).2.2.1) (((F_foundHere f n rs k).2).2.2.2))) s H locs := by first | (rw [hE]; exact hw) | exact hw
        exact k_iret hC hr hlocks hw [0, 1, 2] rfl rfl ⟨by rw [hE], rfl⟩ (by decide) (by decide) dX5_foundHere_43
      · refine lv_iload_n hx hb dX5_foundHere_38 rfl (lv_at hl 1 rfl) ?_
        refine lv_goto (tgt := 43) hx hb dX5_foundHere_39 (by decide) ?_
        have hE : (F_foundHere f n rs k) = (k, (F_fail f n rs 2)) := by unfold F_foundHere; rw [if_neg c_86, if_pos c_87, if_pos c_89]
        have hw : kW γ A ([(rr, .inr (5, [.ref h, .ref rl, .ref ab, .int mn, .int (((F_foundHere f n rs k).2).1)]))] ++ (tWd γ h hg n f (((F_foundHere f n rs k).2).2.1) (((F_foundHere f n rs k).2).2.2.1) (((F_foundHere f n rs k).2).2.2.2))) s H locs := by first | (rw [hE]; exact hw) | exact hw
        exact k_iret hC hr hlocks hw [0, 1, 2] rfl rfl ⟨by rw [hE], rfl⟩ (by decide) (by decide) dX5_foundHere_43
  · refine lv_aload_n hx hb dX5_foundHere_13 rfl (lv_at hl 0 rfl) ?_
    refine lv_iconst (v := 1) hx hb dX5_foundHere_14 (by decide) ?_
    refine k_V (wr := []) 1 gw_493 gw_495 gp_5 gw_14 gw_496 hd_X5_fail hC hw (c_fail γ l rr rl ab mn h hg n rs f 1 hn hok) ⟨by decide, by decide⟩ ⟨by decide, by decide⟩ hl.1 rfl 0 rfl rfl rfl (Nat.le_of_ble_eq_true rfl) [0, 1, 2] [] rfl rfl rfl rfl (by decide) dX5_foundHere_15 (fun r w1 H locs hq hw => ?_)
    obtain ⟨rfl, rfl⟩ := hq
    have hw : kW γ A ([(rr, .inr (5, [.ref h, .ref rl, .ref ab, .int mn, .int ((F_fail f n rs 1).1)]))] ++ (tWd γ h hg n f ((F_fail f n rs 1).2.1) ((F_fail f n rs 1).2.2.1) ((F_fail f n rs 1).2.2.2))) s H locs := hw
    refine W.eq (g2 := F0 m 18 ls []) rfl ?_
    refine lv_goto (tgt := 31) hx hb dX5_foundHere_18 (by decide) ?_
    refine lv_aload_n hx hb dX5_foundHere_31 rfl (lv_at hl 0 rfl) ?_
    refine fg_RX5_91 hC hw 0 rfl rfl dX5_foundHere_32 ?_
    refine lv_if_ne (tgt := 42) hx hb dX5_foundHere_35 (by decide) (fun c_90 => ?_) (fun c_90 => ?_)
    · refine lv_iconst (v := 0) hx hb dX5_foundHere_42 (by decide) ?_
      have hE : (F_foundHere f n rs k) = (0, (F_fail f n rs 1)) := by unfold F_foundHere; rw [if_pos c_86, if_neg c_90]
      have hw : kW γ A ([(rr, .inr (5, [.ref h, .ref rl, .ref ab, .int mn, .int (((F_foundHere f n rs k).2).1)]))] ++ (tWd γ h hg n f (((F_foundHere f n rs k).2).2.1) (((F_foundHere f n rs k).2).2.2.1) (((F_foundHere f n rs k).2).2.2.2))) s H locs := by first | (rw [hE]; exact hw) | exact hw
      exact k_iret hC hr hlocks hw [0, 1, 2] rfl rfl ⟨by rw [hE], rfl⟩ (by decide) (by decide) dX5_foundHere_43
    · refine lv_iload_n hx hb dX5_foundHere_38 rfl (lv_at hl 1 rfl) ?_
      refine lv_goto (tgt := 43) hx hb dX5_foundHere_39 (by decide) ?_
      have hE : (F_foundHere f n rs k) = (k, (F_fail f n rs 1)) := by unfold F_foundHere; rw [if_pos c_86, if_pos c_90]
      have hw : kW γ A ([(rr, .inr (5, [.ref h, .ref rl, .ref ab, .int mn, .int (((F_foundHere f n rs k).2).1)]))] ++ (tWd γ h hg n f (((F_foundHere f n rs k).2).2.1) (((F_foundHere f n rs k).2).2.2.1) (((F_foundHere f n rs k).2).2.2.2))) s H locs := by first | (rw [hE]; exact hw) | exact hw
      exact k_iret hC hr hlocks hw [0, 1, 2] rfl rfl ⟨by rw [hE], rfl⟩ (by decide) (by decide) dX5_foundHere_43

def F_operationHere (f : Nat → Int32) (n : Nat) (rs : rRS) : Int32 :=
  if (tk f n (rs.2.1)) = 42 then (-12) else (if (tk f n (rs.2.1)) = 43 then (-10) else (if (tk f n (rs.2.1)) = 45 then (-11) else (if (tk f n (rs.2.1)) = 60 then (-8) else (if (tk f n (rs.2.1)) = 61 then (-9) else (if (tw f n (rs.2.1)) = 20 then (kWv.getD (tw f n (rs.2.1)) 0) else (if (tw f n (rs.2.1)) = 21 then (kWv.getD (tw f n (rs.2.1)) 0) else 0))))))
set_option maxHeartbeats 4000000 in
set_option maxRecDepth 100000 in
theorem c_operationHere (γ : kΓ) (l : Launch) (rr : Nat) (rl : Nat) (ab : Nat) (mn : Int32) (h : Nat) (hg : Nat) (n : Nat) (rs : rRS) (f : Nat → Int32) (hn : n ≤ 1000) (hok : ∀ k, k < n → kok (f k) = true) : kM γ l yX5_operationHere cX5_operationHere 1 ((some .int)) ({ frames := 0, cells := 0, slots := 0, locals := 0 } : Room) [.ref rr] ([(rr, .inr (5, [.ref h, .ref rl, .ref ab, .int mn, .int (rs.1)]))] ++ (tWd γ h hg n f (rs.2.1) (rs.2.2.1) (rs.2.2.2))) (fun r w1 => r = some (.int (F_operationHere f n rs)) ∧ w1 = ([(rr, .inr (5, [.ref h, .ref rl, .ref ab, .int mn, .int (rs.1)]))] ++ (tWd γ h hg n f (rs.2.1) (rs.2.2.1) (rs.2.2.2)))) := by
  refine k_ofW (by decide) (Nat.le_of_ble_eq_true rfl) ?_
  intro p9 e s m below meth c A ls hC hr hlocks hname hw hl
  have hx := hC.1
  have hb := hC.2.1
  have hl : lv_has ls 1 [(0, .ref rr)] := hl
  refine lv_aload_n hx hb dX5_operationHere_0 rfl (lv_at hl 0 rfl) ?_
  refine fg_RX5_15 hC hw 0 rfl rfl dX5_operationHere_1 ?_
  refine fg_RX5_116 hC hw 1 rfl rfl dX5_operationHere_4 ?_
  by_cases c_142 : (tk f n (rs.2.1)) = 42
  · refine lv_lookup (off := 61) (tgt := 68) hx hb dX5_operationHere_7 (by decide) (by rw [c_142]; rfl) (by decide) ?_
    refine lv_bipush (v := (-12)) hx hb dX5_operationHere_68 (by decide) ?_
    have hE : (F_operationHere f n rs) = (-12) := by unfold F_operationHere; rw [if_pos c_142]
    have hw : kW γ A ([(rr, .inr (5, [.ref h, .ref rl, .ref ab, .int mn, .int (rs.1)]))] ++ (tWd γ h hg n f (rs.2.1) (rs.2.2.1) (rs.2.2.2))) s s.heap [] := by first | (rw [hE]; exact hw) | exact hw
    exact k_iret hC hr hlocks hw [0, 1, 2] rfl rfl ⟨by rw [hE], rfl⟩ (by decide) (by decide) dX5_operationHere_70
  · by_cases c_143 : (tk f n (rs.2.1)) = 43
    · refine lv_lookup (off := 55) (tgt := 62) hx hb dX5_operationHere_7 (by decide) (by rw [c_143]; rfl) (by decide) ?_
      refine lv_bipush (v := (-10)) hx hb dX5_operationHere_62 (by decide) ?_
      have hE : (F_operationHere f n rs) = (-10) := by unfold F_operationHere; rw [if_neg c_142, if_pos c_143]
      have hw : kW γ A ([(rr, .inr (5, [.ref h, .ref rl, .ref ab, .int mn, .int (rs.1)]))] ++ (tWd γ h hg n f (rs.2.1) (rs.2.2.1) (rs.2.2.2))) s s.heap [] := by first | (rw [hE]; exact hw) | exact hw
      exact k_iret hC hr hlocks hw [0, 1, 2] rfl rfl ⟨by rw [hE], rfl⟩ (by decide) (by decide) dX5_operationHere_64
    · by_cases c_144 : (tk f n (rs.2.1)) = 45
      · refine lv_lookup (off := 58) (tgt := 65) hx hb dX5_operationHere_7 (by decide) (by rw [c_144]; rfl) (by decide) ?_
        refine lv_bipush (v := (-11)) hx hb dX5_operationHere_65 (by decide) ?_
        have hE : (F_operationHere f n rs) = (-11) := by unfold F_operationHere; rw [if_neg c_142, if_neg c_143, if_pos c_144]
        have hw : kW γ A ([(rr, .inr (5, [.ref h, .ref rl, .ref ab, .int mn, .int (rs.1)]))] ++ (tWd γ h hg n f (rs.2.1) (rs.2.2.1) (rs.2.2.2))) s s.heap [] := by first | (rw [hE]; exact hw) | exact hw
        exact k_iret hC hr hlocks hw [0, 1, 2] rfl rfl ⟨by rw [hE], rfl⟩ (by decide) (by decide) dX5_operationHere_67
      · by_cases c_145 : (tk f n (rs.2.1)) = 60
        · refine lv_lookup (off := 49) (tgt := 56) hx hb dX5_operationHere_7 (by decide) (by rw [c_145]; rfl) (by decide) ?_
          refine lv_bipush (v := (-8)) hx hb dX5_operationHere_56 (by decide) ?_
          have hE : (F_operationHere f n rs) = (-8) := by unfold F_operationHere; rw [if_neg c_142, if_neg c_143, if_neg c_144, if_pos c_145]
          have hw : kW γ A ([(rr, .inr (5, [.ref h, .ref rl, .ref ab, .int mn, .int (rs.1)]))] ++ (tWd γ h hg n f (rs.2.1) (rs.2.2.1) (rs.2.2.2))) s s.heap [] := by first | (rw [hE]; exact hw) | exact hw
          exact k_iret hC hr hlocks hw [0, 1, 2] rfl rfl ⟨by rw [hE], rfl⟩ (by decide) (by decide) dX5_operationHere_58
        · by_cases c_146 : (tk f n (rs.2.1)) = 61
          · refine lv_lookup (off := 52) (tgt := 59) hx hb dX5_operationHere_7 (by decide) (by rw [c_146]; rfl) (by decide) ?_
            refine lv_bipush (v := (-9)) hx hb dX5_operationHere_59 (by decide) ?_
            have hE : (F_operationHere f n rs) = (-9) := by unfold F_operationHere; rw [if_neg c_142, if_neg c_143, if_neg c_144, if_neg c_145, if_pos c_146]
            have hw : kW γ A ([(rr, .inr (5, [.ref h, .ref rl, .ref ab, .int mn, .int (rs.1)]))] ++ (tWd γ h hg n f (rs.2.1) (rs.2.2.1) (rs.2.2.2))) s s.heap [] := by first | (rw [hE]; exact hw) | exact hw
            exact k_iret hC hr hlocks hw [0, 1, 2] rfl rfl ⟨by rw [hE], rfl⟩ (by decide) (by decide) dX5_operationHere_61
          · refine lv_lookup (off := 64) (tgt := 71) hx hb dX5_operationHere_7 (by decide) ((lv_osw c_142 (by decide)).trans ((lv_osw c_143 (by decide)).trans ((lv_osw c_144 (by decide)).trans ((lv_osw c_145 (by decide)).trans ((lv_osw c_146 (by decide)).trans rfl))))) (by decide) ?_
            refine lv_aload_n hx hb dX5_operationHere_71 rfl (lv_at hl 0 rfl) ?_
            refine fg_RX5_15 hC hw 0 rfl rfl dX5_operationHere_72 ?_
            refine fg_RX5_36 hC hw 1 rfl rfl dX5_operationHere_75 ?_
            refine k_word hC hw (n := 20) (by decide) gw_636 dX5_operationHere_78 ?_
            refine lv_acmp_eq (rx := some (γ.2.2.2.2 (tw f n (rs.2.1)))) (ry := some (γ.2.2.2.2 20)) (tgt := 97) hx hb dX5_operationHere_81 (by decide) (fun c_147 => ?_) (fun c_147 => ?_)
            · have c_147 : (tw f n (rs.2.1)) = 20 := (k_weq hC (tw_lt) (by decide)).mp c_147
              refine lv_aload_n hx hb dX5_operationHere_97 rfl (lv_at hl 0 rfl) ?_
              refine fg_RX5_15 hC hw 0 rfl rfl dX5_operationHere_98 ?_
              refine fg_RX5_36 hC hw 1 rfl rfl dX5_operationHere_101 ?_
              refine k_wordN hC hw (k_zw hC).2.2.2.1 (tw_lt) nw_1834 dX5_operationHere_104 ?_
              refine lv_goto (tgt := 111) hx hb dX5_operationHere_107 (by decide) ?_
              have hE : (F_operationHere f n rs) = (kWv.getD (tw f n (rs.2.1)) 0) := by unfold F_operationHere; rw [if_neg c_142, if_neg c_143, if_neg c_144, if_neg c_145, if_neg c_146, if_pos c_147]
              have hw : kW γ A ([(rr, .inr (5, [.ref h, .ref rl, .ref ab, .int mn, .int (rs.1)]))] ++ (tWd γ h hg n f (rs.2.1) (rs.2.2.1) (rs.2.2.2))) s s.heap [] := by first | (rw [hE]; exact hw) | exact hw
              exact k_iret hC hr hlocks hw [0, 1, 2] rfl rfl ⟨by rw [hE], rfl⟩ (by decide) (by decide) dX5_operationHere_111
            · have c_147 : ¬ (tw f n (rs.2.1)) = 20 := fun h9 => c_147 ((k_weq hC (tw_lt) (by decide)).mpr h9)
              refine lv_aload_n hx hb dX5_operationHere_84 rfl (lv_at hl 0 rfl) ?_
              refine fg_RX5_15 hC hw 0 rfl rfl dX5_operationHere_85 ?_
              refine fg_RX5_36 hC hw 1 rfl rfl dX5_operationHere_88 ?_
              refine k_word hC hw (n := 21) (by decide) gw_638 dX5_operationHere_91 ?_
              refine lv_acmp_ne (rx := some (γ.2.2.2.2 (tw f n (rs.2.1)))) (ry := some (γ.2.2.2.2 21)) (tgt := 110) hx hb dX5_operationHere_94 (by decide) (fun c_148 => ?_) (fun c_148 => ?_)
              · have c_148 : ¬ (tw f n (rs.2.1)) = 21 := fun h9 => c_148 ((k_weq hC (tw_lt) (by decide)).mpr h9)
                refine lv_iconst (v := 0) hx hb dX5_operationHere_110 (by decide) ?_
                have hE : (F_operationHere f n rs) = 0 := by unfold F_operationHere; rw [if_neg c_142, if_neg c_143, if_neg c_144, if_neg c_145, if_neg c_146, if_neg c_147, if_neg c_148]
                have hw : kW γ A ([(rr, .inr (5, [.ref h, .ref rl, .ref ab, .int mn, .int (rs.1)]))] ++ (tWd γ h hg n f (rs.2.1) (rs.2.2.1) (rs.2.2.2))) s s.heap [] := by first | (rw [hE]; exact hw) | exact hw
                exact k_iret hC hr hlocks hw [0, 1, 2] rfl rfl ⟨by rw [hE], rfl⟩ (by decide) (by decide) dX5_operationHere_111
              · have c_148 : (tw f n (rs.2.1)) = 21 := (k_weq hC (tw_lt) (by decide)).mp c_148
                refine lv_aload_n hx hb dX5_operationHere_97 rfl (lv_at hl 0 rfl) ?_
                refine fg_RX5_15 hC hw 0 rfl rfl dX5_operationHere_98 ?_
                refine fg_RX5_36 hC hw 1 rfl rfl dX5_operationHere_101 ?_
                refine k_wordN hC hw (k_zw hC).2.2.2.1 (tw_lt) nw_1834 dX5_operationHere_104 ?_
                refine lv_goto (tgt := 111) hx hb dX5_operationHere_107 (by decide) ?_
                have hE : (F_operationHere f n rs) = (kWv.getD (tw f n (rs.2.1)) 0) := by unfold F_operationHere; rw [if_neg c_142, if_neg c_143, if_neg c_144, if_neg c_145, if_neg c_146, if_neg c_147, if_pos c_148]
                have hw : kW γ A ([(rr, .inr (5, [.ref h, .ref rl, .ref ab, .int mn, .int (rs.1)]))] ++ (tWd γ h hg n f (rs.2.1) (rs.2.2.1) (rs.2.2.2))) s s.heap [] := by first | (rw [hE]; exact hw) | exact hw
                exact k_iret hC hr hlocks hw [0, 1, 2] rfl rfl ⟨by rw [hE], rfl⟩ (by decide) (by decide) dX5_operationHere_111

def F_levelOf (k : Int32) : Int32 :=
  if k = (-12) then 3 else (if k = (-11) then 2 else (if k = (-10) then 2 else (if k = (-9) then 1 else (if k = (-8) then 1 else (if k = (-7) then 0 else (if k = (-6) then 0 else (-1)))))))
set_option maxHeartbeats 4000000 in
set_option maxRecDepth 100000 in
theorem c_levelOf (γ : kΓ) (l : Launch) (k : Int32) : kM γ l yX5_levelOf cX5_levelOf 1 ((some .int)) ({ frames := 0, cells := 0, slots := 0, locals := 0 } : Room) [.int k] [] (fun r w1 => r = some (.int (F_levelOf k)) ∧ w1 = []) := by
  refine k_ofW (by decide) (Nat.le_of_ble_eq_true rfl) ?_
  intro p9 e s m below meth c A ls hC hr hlocks hname hw hl
  have hx := hC.1
  have hb := hC.2.1
  have hl : lv_has ls 1 [(0, .int k)] := hl
  refine lv_iload_n hx hb dX5_levelOf_0 rfl (lv_at hl 0 rfl) ?_
  by_cases c_156 : k = (-12)
  · refine lv_tableIn (off := 49) (tgt := 50) hx hb dX5_levelOf_1 (by rw [c_156]; decide) (by rw [c_156]; decide) (by rw [c_156]; rfl) (by decide) ?_
    refine lv_iconst (v := 3) hx hb dX5_levelOf_50 (by decide) ?_
    have hE : (F_levelOf k) = 3 := by unfold F_levelOf; rw [if_pos c_156]
    have hw : kW γ A [] s s.heap [] := by first | (rw [hE]; exact hw) | exact hw
    exact k_iret hC hr hlocks hw [] rfl rfl ⟨by rw [hE], rfl⟩ (by decide) (by decide) dX5_levelOf_51
  · by_cases c_157 : k = (-11)
    · refine lv_tableIn (off := 47) (tgt := 48) hx hb dX5_levelOf_1 (by rw [c_157]; decide) (by rw [c_157]; decide) (by rw [c_157]; rfl) (by decide) ?_
      refine lv_iconst (v := 2) hx hb dX5_levelOf_48 (by decide) ?_
      have hE : (F_levelOf k) = 2 := by unfold F_levelOf; rw [if_neg c_156, if_pos c_157]
      have hw : kW γ A [] s s.heap [] := by first | (rw [hE]; exact hw) | exact hw
      exact k_iret hC hr hlocks hw [] rfl rfl ⟨by rw [hE], rfl⟩ (by decide) (by decide) dX5_levelOf_49
    · by_cases c_158 : k = (-10)
      · refine lv_tableIn (off := 47) (tgt := 48) hx hb dX5_levelOf_1 (by rw [c_158]; decide) (by rw [c_158]; decide) (by rw [c_158]; rfl) (by decide) ?_
        refine lv_iconst (v := 2) hx hb dX5_levelOf_48 (by decide) ?_
        have hE : (F_levelOf k) = 2 := by unfold F_levelOf; rw [if_neg c_156, if_neg c_157, if_pos c_158]
        have hw : kW γ A [] s s.heap [] := by first | (rw [hE]; exact hw) | exact hw
        exact k_iret hC hr hlocks hw [] rfl rfl ⟨by rw [hE], rfl⟩ (by decide) (by decide) dX5_levelOf_49
      · by_cases c_159 : k = (-9)
        · refine lv_tableIn (off := 45) (tgt := 46) hx hb dX5_levelOf_1 (by rw [c_159]; decide) (by rw [c_159]; decide) (by rw [c_159]; rfl) (by decide) ?_
          refine lv_iconst (v := 1) hx hb dX5_levelOf_46 (by decide) ?_
          have hE : (F_levelOf k) = 1 := by unfold F_levelOf; rw [if_neg c_156, if_neg c_157, if_neg c_158, if_pos c_159]
          have hw : kW γ A [] s s.heap [] := by first | (rw [hE]; exact hw) | exact hw
          exact k_iret hC hr hlocks hw [] rfl rfl ⟨by rw [hE], rfl⟩ (by decide) (by decide) dX5_levelOf_47
        · by_cases c_160 : k = (-8)
          · refine lv_tableIn (off := 45) (tgt := 46) hx hb dX5_levelOf_1 (by rw [c_160]; decide) (by rw [c_160]; decide) (by rw [c_160]; rfl) (by decide) ?_
            refine lv_iconst (v := 1) hx hb dX5_levelOf_46 (by decide) ?_
            have hE : (F_levelOf k) = 1 := by unfold F_levelOf; rw [if_neg c_156, if_neg c_157, if_neg c_158, if_neg c_159, if_pos c_160]
            have hw : kW γ A [] s s.heap [] := by first | (rw [hE]; exact hw) | exact hw
            exact k_iret hC hr hlocks hw [] rfl rfl ⟨by rw [hE], rfl⟩ (by decide) (by decide) dX5_levelOf_47
          · by_cases c_161 : k = (-7)
            · refine lv_tableIn (off := 43) (tgt := 44) hx hb dX5_levelOf_1 (by rw [c_161]; decide) (by rw [c_161]; decide) (by rw [c_161]; rfl) (by decide) ?_
              refine lv_iconst (v := 0) hx hb dX5_levelOf_44 (by decide) ?_
              have hE : (F_levelOf k) = 0 := by unfold F_levelOf; rw [if_neg c_156, if_neg c_157, if_neg c_158, if_neg c_159, if_neg c_160, if_pos c_161]
              have hw : kW γ A [] s s.heap [] := by first | (rw [hE]; exact hw) | exact hw
              exact k_iret hC hr hlocks hw [] rfl rfl ⟨by rw [hE], rfl⟩ (by decide) (by decide) dX5_levelOf_45
            · by_cases c_162 : k = (-6)
              · refine lv_tableIn (off := 43) (tgt := 44) hx hb dX5_levelOf_1 (by rw [c_162]; decide) (by rw [c_162]; decide) (by rw [c_162]; rfl) (by decide) ?_
                refine lv_iconst (v := 0) hx hb dX5_levelOf_44 (by decide) ?_
                have hE : (F_levelOf k) = 0 := by unfold F_levelOf; rw [if_neg c_156, if_neg c_157, if_neg c_158, if_neg c_159, if_neg c_160, if_neg c_161, if_pos c_162]
                have hw : kW γ A [] s s.heap [] := by first | (rw [hE]; exact hw) | exact hw
                exact k_iret hC hr hlocks hw [] rfl rfl ⟨by rw [hE], rfl⟩ (by decide) (by decide) dX5_levelOf_45
              · have hc_156 := ne_i c_156 (k := (-12)) (by decide)
                have hc_157 := ne_i c_157 (k := (-11)) (by decide)
                have hc_158 := ne_i c_158 (k := (-10)) (by decide)
                have hc_159 := ne_i c_159 (k := (-9)) (by decide)
                have hc_160 := ne_i c_160 (k := (-8)) (by decide)
                have hc_161 := ne_i c_161 (k := (-7)) (by decide)
                have hc_162 := ne_i c_162 (k := (-6)) (by decide)
                refine lv_tableOut (tgt := 52) hx hb dX5_levelOf_1 (by omega) (by decide) ?_
                refine lv_iconst (v := (-1)) hx hb dX5_levelOf_52 (by decide) ?_
                have hE : (F_levelOf k) = (-1) := by unfold F_levelOf; rw [if_neg c_156, if_neg c_157, if_neg c_158, if_neg c_159, if_neg c_160, if_neg c_161, if_neg c_162]
                have hw : kW γ A [] s s.heap [] := by first | (rw [hE]; exact hw) | exact hw
                exact k_iret hC hr hlocks hw [] rfl rfl ⟨by rw [hE], rfl⟩ (by decide) (by decide) dX5_levelOf_53


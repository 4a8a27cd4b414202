theorem dX5_begin_0 : decode cX5_begin 0 = .ok (.aload_n 0, 1) := by decide +kernel
theorem dX5_begin_1 : decode cX5_begin 1 = .ok (.aload_n 1, 1) := by decide +kernel
theorem dX5_begin_2 : decode cX5_begin 2 = .ok (.putfield 19, 3) := by decide +kernel
theorem dX5_begin_5 : decode cX5_begin 5 = .ok (.aload_n 0, 1) := by decide +kernel
theorem dX5_begin_6 : decode cX5_begin 6 = .ok (.iconst 0, 1) := by decide +kernel
theorem dX5_begin_7 : decode cX5_begin 7 = .ok (.putfield 91, 3) := by decide +kernel
theorem dX5_begin_10 : decode cX5_begin 10 = .ok (.aload_n 0, 1) := by decide +kernel
theorem dX5_begin_11 : decode cX5_begin 11 = .ok (.getfield 15, 3) := by decide +kernel
theorem dX5_begin_14 : decode cX5_begin 14 = .ok (.invokevirtual 114, 3) := by decide +kernel
theorem dX5_begin_17 : decode cX5_begin 17 = .ok (.return_, 1) := by decide +kernel
theorem dX5_goesOn_0 : decode cX5_goesOn 0 = .ok (.aload_n 0, 1) := by decide +kernel
theorem dX5_goesOn_1 : decode cX5_goesOn 1 = .ok (.getfield 91, 3) := by decide +kernel
theorem dX5_goesOn_4 : decode cX5_goesOn 4 = .ok (.ifCond .ne 17, 3) := by decide +kernel
theorem dX5_goesOn_7 : decode cX5_goesOn 7 = .ok (.aload_n 0, 1) := by decide +kernel
theorem dX5_goesOn_8 : decode cX5_goesOn 8 = .ok (.getfield 15, 3) := by decide +kernel
theorem dX5_goesOn_11 : decode cX5_goesOn 11 = .ok (.getfield 116, 3) := by decide +kernel
theorem dX5_goesOn_14 : decode cX5_goesOn 14 = .ok (.ifCond .eq 7, 3) := by decide +kernel
theorem dX5_goesOn_17 : decode cX5_goesOn 17 = .ok (.iconst 1, 1) := by decide +kernel
theorem dX5_goesOn_18 : decode cX5_goesOn 18 = .ok (.goto 4, 3) := by decide +kernel
theorem dX5_goesOn_21 : decode cX5_goesOn 21 = .ok (.iconst 0, 1) := by decide +kernel
theorem dX5_goesOn_22 : decode cX5_goesOn 22 = .ok (.ireturn, 1) := by decide +kernel
theorem dX5_readAbbey_0 : decode cX5_readAbbey 0 = .ok (.aload_n 1, 1) := by decide +kernel
theorem dX5_readAbbey_1 : decode cX5_readAbbey 1 = .ok (.invokevirtual 23, 3) := by decide +kernel
theorem dX5_readAbbey_4 : decode cX5_readAbbey 4 = .ok (.aload_n 0, 1) := by decide +kernel
theorem dX5_readAbbey_5 : decode cX5_readAbbey 5 = .ok (.aload_n 1, 1) := by decide +kernel
theorem dX5_readAbbey_6 : decode cX5_readAbbey 6 = .ok (.invokevirtual 28, 3) := by decide +kernel
theorem dX5_readAbbey_9 : decode cX5_readAbbey 9 = .ok (.iconst 0, 1) := by decide +kernel
theorem dX5_readAbbey_10 : decode cX5_readAbbey 10 = .ok (.istore_n 2, 1) := by decide +kernel
theorem dX5_readAbbey_11 : decode cX5_readAbbey 11 = .ok (.iload_n 2, 1) := by decide +kernel
theorem dX5_readAbbey_12 : decode cX5_readAbbey 12 = .ok (.sipush 1000, 3) := by decide +kernel
theorem dX5_readAbbey_15 : decode cX5_readAbbey 15 = .ok (.if_icmp .ge 122, 3) := by decide +kernel
theorem dX5_readAbbey_18 : decode cX5_readAbbey 18 = .ok (.aload_n 0, 1) := by decide +kernel
theorem dX5_readAbbey_19 : decode cX5_readAbbey 19 = .ok (.invokevirtual 32, 3) := by decide +kernel
theorem dX5_readAbbey_22 : decode cX5_readAbbey 22 = .ok (.ifCond .eq 115, 3) := by decide +kernel
theorem dX5_readAbbey_25 : decode cX5_readAbbey 25 = .ok (.aload_n 0, 1) := by decide +kernel
theorem dX5_readAbbey_26 : decode cX5_readAbbey 26 = .ok (.getfield 15, 3) := by decide +kernel
theorem dX5_readAbbey_29 : decode cX5_readAbbey 29 = .ok (.getfield 36, 3) := by decide +kernel
theorem dX5_readAbbey_32 : decode cX5_readAbbey 32 = .ok (.astore_n 3, 1) := by decide +kernel
theorem dX5_readAbbey_33 : decode cX5_readAbbey 33 = .ok (.aload_n 3, 1) := by decide +kernel
theorem dX5_readAbbey_34 : decode cX5_readAbbey 34 = .ok (.getstatic 42, 3) := by decide +kernel
theorem dX5_readAbbey_37 : decode cX5_readAbbey 37 = .ok (.if_acmp .ne 10, 3) := by decide +kernel
theorem dX5_readAbbey_40 : decode cX5_readAbbey 40 = .ok (.aload_n 0, 1) := by decide +kernel
theorem dX5_readAbbey_41 : decode cX5_readAbbey 41 = .ok (.invokevirtual 47, 3) := by decide +kernel
theorem dX5_readAbbey_44 : decode cX5_readAbbey 44 = .ok (.goto 87, 3) := by decide +kernel
theorem dX5_readAbbey_47 : decode cX5_readAbbey 47 = .ok (.aload_n 3, 1) := by decide +kernel
theorem dX5_readAbbey_48 : decode cX5_readAbbey 48 = .ok (.getstatic 50, 3) := by decide +kernel
theorem dX5_readAbbey_51 : decode cX5_readAbbey 51 = .ok (.if_acmp .ne 10, 3) := by decide +kernel
theorem dX5_readAbbey_54 : decode cX5_readAbbey 54 = .ok (.aload_n 0, 1) := by decide +kernel
theorem dX5_readAbbey_55 : decode cX5_readAbbey 55 = .ok (.invokevirtual 53, 3) := by decide +kernel
theorem dX5_readAbbey_58 : decode cX5_readAbbey 58 = .ok (.goto 73, 3) := by decide +kernel
theorem dX5_readAbbey_61 : decode cX5_readAbbey 61 = .ok (.aload_n 3, 1) := by decide +kernel
theorem dX5_readAbbey_62 : decode cX5_readAbbey 62 = .ok (.getstatic 56, 3) := by decide +kernel
theorem dX5_readAbbey_65 : decode cX5_readAbbey 65 = .ok (.if_acmp .ne 10, 3) := by decide +kernel
theorem dX5_readAbbey_68 : decode cX5_readAbbey 68 = .ok (.aload_n 0, 1) := by decide +kernel
theorem dX5_readAbbey_69 : decode cX5_readAbbey 69 = .ok (.invokevirtual 59, 3) := by decide +kernel
theorem dX5_readAbbey_72 : decode cX5_readAbbey 72 = .ok (.goto 59, 3) := by decide +kernel
theorem dX5_readAbbey_75 : decode cX5_readAbbey 75 = .ok (.aload_n 3, 1) := by decide +kernel
theorem dX5_readAbbey_76 : decode cX5_readAbbey 76 = .ok (.getstatic 62, 3) := by decide +kernel
theorem dX5_readAbbey_79 : decode cX5_readAbbey 79 = .ok (.if_acmp .eq 17, 3) := by decide +kernel
theorem dX5_readAbbey_82 : decode cX5_readAbbey 82 = .ok (.aload_n 3, 1) := by decide +kernel
theorem dX5_readAbbey_83 : decode cX5_readAbbey 83 = .ok (.getstatic 65, 3) := by decide +kernel
theorem dX5_readAbbey_86 : decode cX5_readAbbey 86 = .ok (.if_acmp .eq 10, 3) := by decide +kernel
theorem dX5_readAbbey_89 : decode cX5_readAbbey 89 = .ok (.aload_n 3, 1) := by decide +kernel
theorem dX5_readAbbey_90 : decode cX5_readAbbey 90 = .ok (.getstatic 68, 3) := by decide +kernel
theorem dX5_readAbbey_93 : decode cX5_readAbbey 93 = .ok (.if_acmp .ne 11, 3) := by decide +kernel
theorem dX5_readAbbey_96 : decode cX5_readAbbey 96 = .ok (.aload_n 0, 1) := by decide +kernel
theorem dX5_readAbbey_97 : decode cX5_readAbbey 97 = .ok (.aload_n 3, 1) := by decide +kernel
theorem dX5_readAbbey_98 : decode cX5_readAbbey 98 = .ok (.invokevirtual 71, 3) := by decide +kernel
theorem dX5_readAbbey_101 : decode cX5_readAbbey 101 = .ok (.goto 30, 3) := by decide +kernel
theorem dX5_readAbbey_104 : decode cX5_readAbbey 104 = .ok (.aload_n 3, 1) := by decide +kernel
theorem dX5_readAbbey_105 : decode cX5_readAbbey 105 = .ok (.getstatic 75, 3) := by decide +kernel
theorem dX5_readAbbey_108 : decode cX5_readAbbey 108 = .ok (.if_acmp .eq 10, 3) := by decide +kernel
theorem dX5_readAbbey_111 : decode cX5_readAbbey 111 = .ok (.aload_n 3, 1) := by decide +kernel
theorem dX5_readAbbey_112 : decode cX5_readAbbey 112 = .ok (.getstatic 78, 3) := by decide +kernel
theorem dX5_readAbbey_115 : decode cX5_readAbbey 115 = .ok (.if_acmp .ne 11, 3) := by decide +kernel
theorem dX5_readAbbey_118 : decode cX5_readAbbey 118 = .ok (.aload_n 0, 1) := by decide +kernel
theorem dX5_readAbbey_119 : decode cX5_readAbbey 119 = .ok (.aload_n 3, 1) := by decide +kernel
theorem dX5_readAbbey_120 : decode cX5_readAbbey 120 = .ok (.invokevirtual 81, 3) := by decide +kernel
theorem dX5_readAbbey_123 : decode cX5_readAbbey 123 = .ok (.goto 8, 3) := by decide +kernel
theorem dX5_readAbbey_126 : decode cX5_readAbbey 126 = .ok (.aload_n 0, 1) := by decide +kernel
theorem dX5_readAbbey_127 : decode cX5_readAbbey 127 = .ok (.iconst 1, 1) := by decide +kernel
theorem dX5_readAbbey_128 : decode cX5_readAbbey 128 = .ok (.invokevirtual 84, 3) := by decide +kernel
theorem dX5_readAbbey_131 : decode cX5_readAbbey 131 = .ok (.iinc 2 1, 3) := by decide +kernel
theorem dX5_readAbbey_134 : decode cX5_readAbbey 134 = .ok (.goto (-123), 3) := by decide +kernel
theorem dX5_readAbbey_137 : decode cX5_readAbbey 137 = .ok (.aload_n 0, 1) := by decide +kernel
theorem dX5_readAbbey_138 : decode cX5_readAbbey 138 = .ok (.getfield 15, 3) := by decide +kernel
theorem dX5_readAbbey_141 : decode cX5_readAbbey 141 = .ok (.invokevirtual 88, 3) := by decide +kernel
theorem dX5_readAbbey_144 : decode cX5_readAbbey 144 = .ok (.aload_n 0, 1) := by decide +kernel
theorem dX5_readAbbey_145 : decode cX5_readAbbey 145 = .ok (.getfield 91, 3) := by decide +kernel
theorem dX5_readAbbey_148 : decode cX5_readAbbey 148 = .ok (.ireturn, 1) := by decide +kernel
theorem dX5_readYears_0 : decode cX5_readYears 0 = .ok (.aload_n 0, 1) := by decide +kernel
theorem dX5_readYears_1 : decode cX5_readYears 1 = .ok (.aload_n 1, 1) := by decide +kernel
theorem dX5_readYears_2 : decode cX5_readYears 2 = .ok (.invokevirtual 28, 3) := by decide +kernel
theorem dX5_readYears_5 : decode cX5_readYears 5 = .ok (.aload_n 0, 1) := by decide +kernel
theorem dX5_readYears_6 : decode cX5_readYears 6 = .ok (.iconst 0, 1) := by decide +kernel
theorem dX5_readYears_7 : decode cX5_readYears 7 = .ok (.putfield 95, 3) := by decide +kernel
theorem dX5_readYears_10 : decode cX5_readYears 10 = .ok (.iconst 0, 1) := by decide +kernel
theorem dX5_readYears_11 : decode cX5_readYears 11 = .ok (.istore_n 3, 1) := by decide +kernel
theorem dX5_readYears_12 : decode cX5_readYears 12 = .ok (.iload_n 3, 1) := by decide +kernel
theorem dX5_readYears_13 : decode cX5_readYears 13 = .ok (.sipush 1000, 3) := by decide +kernel
theorem dX5_readYears_16 : decode cX5_readYears 16 = .ok (.if_icmp .ge 20, 3) := by decide +kernel
theorem dX5_readYears_19 : decode cX5_readYears 19 = .ok (.aload_n 0, 1) := by decide +kernel
theorem dX5_readYears_20 : decode cX5_readYears 20 = .ok (.invokevirtual 32, 3) := by decide +kernel
theorem dX5_readYears_23 : decode cX5_readYears 23 = .ok (.ifCond .eq 13, 3) := by decide +kernel
theorem dX5_readYears_26 : decode cX5_readYears 26 = .ok (.aload_n 0, 1) := by decide +kernel
theorem dX5_readYears_27 : decode cX5_readYears 27 = .ok (.invokevirtual 98, 3) := by decide +kernel
theorem dX5_readYears_30 : decode cX5_readYears 30 = .ok (.iinc 3 1, 3) := by decide +kernel
theorem dX5_readYears_33 : decode cX5_readYears 33 = .ok (.goto (-21), 3) := by decide +kernel
theorem dX5_readYears_36 : decode cX5_readYears 36 = .ok (.aload_n 0, 1) := by decide +kernel
theorem dX5_readYears_37 : decode cX5_readYears 37 = .ok (.getfield 15, 3) := by decide +kernel
theorem dX5_readYears_40 : decode cX5_readYears 40 = .ok (.invokevirtual 88, 3) := by decide +kernel
theorem dX5_readYears_43 : decode cX5_readYears 43 = .ok (.aload_n 0, 1) := by decide +kernel
theorem dX5_readYears_44 : decode cX5_readYears 44 = .ok (.getfield 91, 3) := by decide +kernel
theorem dX5_readYears_47 : decode cX5_readYears 47 = .ok (.ifCond .ne 28, 3) := by decide +kernel
theorem dX5_readYears_50 : decode cX5_readYears 50 = .ok (.aload_n 0, 1) := by decide +kernel
theorem dX5_readYears_51 : decode cX5_readYears 51 = .ok (.getfield 9, 3) := by decide +kernel
theorem dX5_readYears_54 : decode cX5_readYears 54 = .ok (.iconst 0, 1) := by decide +kernel
theorem dX5_readYears_55 : decode cX5_readYears 55 = .ok (.aload_n 2, 1) := by decide +kernel
theorem dX5_readYears_56 : decode cX5_readYears 56 = .ok (.getfield 101, 3) := by decide +kernel
theorem dX5_readYears_59 : decode cX5_readYears 59 = .ok (.iconst 0, 1) := by decide +kernel
theorem dX5_readYears_60 : decode cX5_readYears 60 = .ok (.aload_n 0, 1) := by decide +kernel
theorem dX5_readYears_61 : decode cX5_readYears 61 = .ok (.getfield 95, 3) := by decide +kernel
theorem dX5_readYears_64 : decode cX5_readYears 64 = .ok (.invokestatic 106, 3) := by decide +kernel
theorem dX5_readYears_67 : decode cX5_readYears 67 = .ok (.aload_n 2, 1) := by decide +kernel
theorem dX5_readYears_68 : decode cX5_readYears 68 = .ok (.aload_n 0, 1) := by decide +kernel
theorem dX5_readYears_69 : decode cX5_readYears 69 = .ok (.getfield 95, 3) := by decide +kernel
theorem dX5_readYears_72 : decode cX5_readYears 72 = .ok (.putfield 112, 3) := by decide +kernel
theorem dX5_readYears_75 : decode cX5_readYears 75 = .ok (.aload_n 0, 1) := by decide +kernel
theorem dX5_readYears_76 : decode cX5_readYears 76 = .ok (.getfield 91, 3) := by decide +kernel
theorem dX5_readYears_79 : decode cX5_readYears 79 = .ok (.ireturn, 1) := by decide +kernel
theorem dX11_beginAnew_0 : decode cX11_beginAnew 0 = .ok (.aload_n 0, 1) := by decide +kernel
theorem dX11_beginAnew_1 : decode cX11_beginAnew 1 = .ok (.getfield 26, 3) := by decide +kernel
theorem dX11_beginAnew_4 : decode cX11_beginAnew 4 = .ok (.invokevirtual 100, 3) := by decide +kernel
theorem dX11_beginAnew_7 : decode cX11_beginAnew 7 = .ok (.aload_n 0, 1) := by decide +kernel
theorem dX11_beginAnew_8 : decode cX11_beginAnew 8 = .ok (.getfield 19, 3) := by decide +kernel
theorem dX11_beginAnew_11 : decode cX11_beginAnew 11 = .ok (.invokevirtual 103, 3) := by decide +kernel
theorem dX11_beginAnew_14 : decode cX11_beginAnew 14 = .ok (.iconst 0, 1) := by decide +kernel
theorem dX11_beginAnew_15 : decode cX11_beginAnew 15 = .ok (.istore_n 1, 1) := by decide +kernel
theorem dX11_beginAnew_16 : decode cX11_beginAnew 16 = .ok (.iload_n 1, 1) := by decide +kernel
theorem dX11_beginAnew_17 : decode cX11_beginAnew 17 = .ok (.iconst 4, 1) := by decide +kernel
theorem dX11_beginAnew_18 : decode cX11_beginAnew 18 = .ok (.if_icmp .ge 19, 3) := by decide +kernel
theorem dX11_beginAnew_21 : decode cX11_beginAnew 21 = .ok (.aload_n 0, 1) := by decide +kernel
theorem dX11_beginAnew_22 : decode cX11_beginAnew 22 = .ok (.getfield 30, 3) := by decide +kernel
theorem dX11_beginAnew_25 : decode cX11_beginAnew 25 = .ok (.iload_n 1, 1) := by decide +kernel
theorem dX11_beginAnew_26 : decode cX11_beginAnew 26 = .ok (.aaload, 1) := by decide +kernel
theorem dX11_beginAnew_27 : decode cX11_beginAnew 27 = .ok (.iconst 0, 1) := by decide +kernel
theorem dX11_beginAnew_28 : decode cX11_beginAnew 28 = .ok (.putfield 104, 3) := by decide +kernel
theorem dX11_beginAnew_31 : decode cX11_beginAnew 31 = .ok (.iinc 1 1, 3) := by decide +kernel
theorem dX11_beginAnew_34 : decode cX11_beginAnew 34 = .ok (.goto (-18), 3) := by decide +kernel
theorem dX11_beginAnew_37 : decode cX11_beginAnew 37 = .ok (.return_, 1) := by decide +kernel
theorem dX11_abbey_0 : decode cX11_abbey 0 = .ok (.aload_n 0, 1) := by decide +kernel
theorem dX11_abbey_1 : decode cX11_abbey 1 = .ok (.getfield 77, 3) := by decide +kernel
theorem dX11_abbey_4 : decode cX11_abbey 4 = .ok (.aload_n 0, 1) := by decide +kernel
theorem dX11_abbey_5 : decode cX11_abbey 5 = .ok (.getfield 69, 3) := by decide +kernel
theorem dX11_abbey_8 : decode cX11_abbey 8 = .ok (.invokevirtual 89, 3) := by decide +kernel
theorem dX11_abbey_11 : decode cX11_abbey 11 = .ok (.istore_n 1, 1) := by decide +kernel
theorem dX11_abbey_12 : decode cX11_abbey 12 = .ok (.iload_n 1, 1) := by decide +kernel
theorem dX11_abbey_13 : decode cX11_abbey 13 = .ok (.ifCond .ne 25, 3) := by decide +kernel
theorem dX11_abbey_16 : decode cX11_abbey 16 = .ok (.aload_n 0, 1) := by decide +kernel
theorem dX11_abbey_17 : decode cX11_abbey 17 = .ok (.getfield 65, 3) := by decide +kernel
theorem dX11_abbey_20 : decode cX11_abbey 20 = .ok (.astore_n 2, 1) := by decide +kernel
theorem dX11_abbey_21 : decode cX11_abbey 21 = .ok (.aload_n 0, 1) := by decide +kernel
theorem dX11_abbey_22 : decode cX11_abbey 22 = .ok (.aload_n 0, 1) := by decide +kernel
theorem dX11_abbey_23 : decode cX11_abbey 23 = .ok (.getfield 69, 3) := by decide +kernel
theorem dX11_abbey_26 : decode cX11_abbey 26 = .ok (.putfield 65, 3) := by decide +kernel
theorem dX11_abbey_29 : decode cX11_abbey 29 = .ok (.aload_n 0, 1) := by decide +kernel
theorem dX11_abbey_30 : decode cX11_abbey 30 = .ok (.aload_n 2, 1) := by decide +kernel
theorem dX11_abbey_31 : decode cX11_abbey 31 = .ok (.putfield 69, 3) := by decide +kernel
theorem dX11_abbey_34 : decode cX11_abbey 34 = .ok (.aload_n 0, 1) := by decide +kernel
theorem dX11_abbey_35 : decode cX11_abbey 35 = .ok (.invokevirtual 93, 3) := by decide +kernel
theorem dX11_abbey_38 : decode cX11_abbey 38 = .ok (.iload_n 1, 1) := by decide +kernel
theorem dX11_abbey_39 : decode cX11_abbey 39 = .ok (.ireturn, 1) := by decide +kernel
theorem dX11_years_0 : decode cX11_years 0 = .ok (.aload_n 0, 1) := by decide +kernel
theorem dX11_years_1 : decode cX11_years 1 = .ok (.getfield 77, 3) := by decide +kernel
theorem dX11_years_4 : decode cX11_years 4 = .ok (.aload_n 0, 1) := by decide +kernel
theorem dX11_years_5 : decode cX11_years 5 = .ok (.getfield 65, 3) := by decide +kernel
theorem dX11_years_8 : decode cX11_years 8 = .ok (.aload_n 0, 1) := by decide +kernel
theorem dX11_years_9 : decode cX11_years 9 = .ok (.getfield 26, 3) := by decide +kernel
theorem dX11_years_12 : decode cX11_years 12 = .ok (.invokevirtual 96, 3) := by decide +kernel
theorem dX11_years_15 : decode cX11_years 15 = .ok (.ireturn, 1) := by decide +kernel
set_option maxHeartbeats 4000000 in
set_option maxRecDepth 100000 in
theorem c_X5_begin (γ : kΓ) (l : Launch) (h : Nat) (hn : Nat) (t : Nat) (tg : Nat) (ob : Nat) (ab : Nat) (mn : Int32) (fa : Int32) : kM γ l yX5_begin cX5_begin 2 none ({ frames := 2, cells := 0, slots := 0, locals := 41 } : Room) [.ref h, .ref ab] [(h, .inr (5, [.ref t, .ref hn, .ref ob, .int mn, .int fa])), (t, .inr (8, [.ref tg, .int 0, .int 0, .int 0, .int 0, .int 0, .long 0, .ref γ.2.2.2]))] (fun r w1 => r = none ∧ w1 = [(h, .inr (5, [.ref t, .ref hn, .ref ab, .int mn, .int 0])), (t, .inr (8, [.ref tg, .int 0, .int 0, .int 0, .int 0, .int 0, .long 0, .ref γ.2.2.2]))]) := by
  refine k_ofW (by decide) (Nat.le_of_ble_eq_true rfl) ?_
  intro p e s m below meth c A ls hC hr hlocks hname hw hl
  have hx := hC.1
  have hb := hC.2.1
  have hl : lv_has ls 2 [(0, .ref h), (1, .ref ab)] := hl
  refine lv_aload_n hx hb dX5_begin_0 rfl (lv_at hl 0 rfl) ?_
  refine lv_aload_n hx hb dX5_begin_1 rfl (lv_at hl 1 rfl) ?_
  refine fs_RX5_19 hC hw 0 rfl rfl rfl (Nat.le_of_ble_eq_true rfl) dX5_begin_2 (fun H locs hw => ?_)
  have hw : kW γ A [(h, .inr (5, [.ref t, .ref hn, .ref ab, .int mn, .int fa])), (t, .inr (8, [.ref tg, .int 0, .int 0, .int 0, .int 0, .int 0, .long 0, .ref γ.2.2.2]))] s H locs := hw
  refine lv_aload_n hx hb dX5_begin_5 rfl (lv_at hl 0 rfl) ?_
  refine lv_iconst (v := 0) hx hb dX5_begin_6 (by decide) ?_
  refine fs_RX5_91 hC hw 0 rfl rfl rfl (Nat.le_of_ble_eq_true rfl) dX5_begin_7 (fun H locs hw => ?_)
  have hw : kW γ A [(h, .inr (5, [.ref t, .ref hn, .ref ab, .int mn, .int 0])), (t, .inr (8, [.ref tg, .int 0, .int 0, .int 0, .int 0, .int 0, .long 0, .ref γ.2.2.2]))] s H locs := hw
  refine lv_aload_n hx hb dX5_begin_10 rfl (lv_at hl 0 rfl) ?_
  refine fg_RX5_15 hC hw 0 rfl rfl dX5_begin_11 ?_
  refine k_V (wr := [(h, .inr (5, [.ref t, .ref hn, .ref ab, .int mn, .int 0]))]) 0 gw_456 gw_457 gw_458 gw_2 gw_459 hd_X8_begin hC hw (c_X8_begin γ l t tg 0 0 0 0 0 γ.2.2.2) ⟨by decide, by decide⟩ ⟨by decide, by decide⟩ hl.1 rfl 1 rfl rfl rfl (Nat.le_of_ble_eq_true rfl) [1] [0] rfl rfl rfl rfl (by decide) dX5_begin_14 (fun r w1 H locs hq hw => ?_)
  obtain ⟨rfl, rfl⟩ := hq
  have hw : kW γ A [(h, .inr (5, [.ref t, .ref hn, .ref ab, .int mn, .int 0])), (t, .inr (8, [.ref tg, .int 0, .int 0, .int 0, .int 0, .int 0, .long 0, .ref γ.2.2.2]))] s H locs := hw
  refine W.eq (g2 := F0 m 17 ls []) rfl ?_
  exact k_vret hC hr hlocks hw [0, 1] rfl rfl ⟨rfl, rfl⟩ (by decide) (by decide) dX5_begin_17

set_option maxHeartbeats 4000000 in
set_option maxRecDepth 100000 in
theorem c_X5_goesOn (γ : kΓ) (l : Launch) (h : Nat) (hn : Nat) (t : Nat) (tg : Nat) (ab : Nat) (mn : Int32) : kM γ l yX5_goesOn cX5_goesOn 1 ((some .boolean)) ({ frames := 0, cells := 0, slots := 0, locals := 0 } : Room) [.ref h] [(h, .inr (5, [.ref t, .ref hn, .ref ab, .int mn, .int 0])), (t, .inr (8, [.ref tg, .int 0, .int 0, .int 0, .int 0, .int 0, .long 0, .ref γ.2.2.2]))] (fun r w1 => r = some (.int 0) ∧ w1 = [(h, .inr (5, [.ref t, .ref hn, .ref ab, .int mn, .int 0])), (t, .inr (8, [.ref tg, .int 0, .int 0, .int 0, .int 0, .int 0, .long 0, .ref γ.2.2.2]))]) := by
  refine k_ofW (by decide) (Nat.le_of_ble_eq_true rfl) ?_
  intro p e s m below meth c A ls hC hr hlocks hname hw hl
  have hx := hC.1
  have hb := hC.2.1
  have hl : lv_has ls 1 [(0, .ref h)] := hl
  refine lv_aload_n hx hb dX5_goesOn_0 rfl (lv_at hl 0 rfl) ?_
  refine fg_RX5_91 hC hw 0 rfl rfl dX5_goesOn_1 ?_
  refine lv_if_ne (tgt := 21) hx hb dX5_goesOn_4 (by decide) (fun h => absurd rfl h) (fun _ => ?_)
  refine lv_aload_n hx hb dX5_goesOn_7 rfl (lv_at hl 0 rfl) ?_
  refine fg_RX5_15 hC hw 0 rfl rfl dX5_goesOn_8 ?_
  refine fg_RX5_116 hC hw 1 rfl rfl dX5_goesOn_11 ?_
  refine lv_if_eq (tgt := 21) hx hb dX5_goesOn_14 (by decide) (fun _ => ?_) (fun h => absurd (by decide) h)
  refine lv_iconst (v := 0) hx hb dX5_goesOn_21 (by decide) ?_
  exact k_zret hC hr hlocks rfl hw [0, 1] rfl rfl ⟨rfl, rfl⟩ (by decide) (by decide) dX5_goesOn_22

set_option maxHeartbeats 4000000 in
set_option maxRecDepth 100000 in
theorem c_X5_readAbbey (γ : kΓ) (l : Launch) (h : Nat) (hn : Nat) (t : Nat) (tg : Nat) (ob : Nat) (mn : Int32) (fa : Int32) (b : Nat) (b0 : Nat) (b1 : Nat) (b2 : Nat) (b3 : Nat) (b4 : Nat) (b5 : Nat) (b6 : Nat) (b7 : Nat) : kM γ l yX5_readAbbey cX5_readAbbey 4 ((some .int)) ({ frames := 3, cells := 0, slots := 0, locals := 62 } : Room) [.ref h, .ref b] [(h, .inr (5, [.ref t, .ref hn, .ref ob, .int mn, .int fa])), (t, .inr (8, [.ref tg, .int 0, .int 0, .int 0, .int 0, .int 0, .long 0, .ref γ.2.2.2])), (b, .inr (0, [.ref b0, .ref b1, .ref b2, .ref b3, .ref b4, .ref b5, .ref b6, .ref b7, .int 0, .int 0, .int 10, .int 10, .int 3, .int 0, .int 0, .int 0, .int 0, .int 0, .int 0]))] (fun r w1 => r = some (.int 0) ∧ w1 = [(h, .inr (5, [.ref t, .ref hn, .ref b, .int mn, .int 0])), (t, .inr (8, [.ref tg, .int 0, .int 0, .int 0, .int 0, .int 0, .long 0, .ref γ.2.2.2])), (b, .inr (0, [.ref b0, .ref b1, .ref b2, .ref b3, .ref b4, .ref b5, .ref b6, .ref b7, .int 0, .int 0, .int 10, .int 10, .int 3, .int 0, .int 0, .int 0, .int 0, .int 0, .int 0]))]) := by
  refine k_ofW (by decide) (Nat.le_of_ble_eq_true rfl) ?_
  intro p e s m below meth c A ls hC hr hlocks hname hw hl
  have hx := hC.1
  have hb := hC.2.1
  have hl : lv_has ls 4 [(0, .ref h), (1, .ref b)] := hl
  refine lv_aload_n hx hb dX5_readAbbey_0 rfl (lv_at hl 1 rfl) ?_
  refine k_V (wr := [(h, .inr (5, [.ref t, .ref hn, .ref ob, .int mn, .int fa])), (t, .inr (8, [.ref tg, .int 0, .int 0, .int 0, .int 0, .int 0, .long 0, .ref γ.2.2.2]))]) 0 gw_451 gw_281 gw_282 gw_13 gw_283 hd_X0_clear hC hw (c_X0_clear γ l b b0 b1 b2 b3 b4 b5 b6 b7 0 0 10 10 3 0 0 0 0 0 0) ⟨by decide, by decide⟩ ⟨by decide, by decide⟩ hl.1 rfl 2 rfl rfl rfl (Nat.le_of_ble_eq_true rfl) [2] [0, 1] rfl rfl rfl rfl (by decide) dX5_readAbbey_1 (fun r w1 H locs hq hw => ?_)
  obtain ⟨rfl, rfl⟩ := hq
  have hw : kW γ A [(h, .inr (5, [.ref t, .ref hn, .ref ob, .int mn, .int fa])), (t, .inr (8, [.ref tg, .int 0, .int 0, .int 0, .int 0, .int 0, .long 0, .ref γ.2.2.2])), (b, .inr (0, [.ref b0, .ref b1, .ref b2, .ref b3, .ref b4, .ref b5, .ref b6, .ref b7, .int 0, .int 0, .int 10, .int 10, .int 3, .int 0, .int 0, .int 0, .int 0, .int 0, .int 0]))] s H locs := hw
  refine W.eq (g2 := F0 m 4 ls []) rfl ?_
  refine lv_aload_n hx hb dX5_readAbbey_4 rfl (lv_at hl 0 rfl) ?_
  refine lv_aload_n hx hb dX5_readAbbey_5 rfl (lv_at hl 1 rfl) ?_
  refine k_V (wr := [(b, .inr (0, [.ref b0, .ref b1, .ref b2, .ref b3, .ref b4, .ref b5, .ref b6, .ref b7, .int 0, .int 0, .int 10, .int 10, .int 3, .int 0, .int 0, .int 0, .int 0, .int 0, .int 0]))]) 1 gw_452 gw_454 gp_0 gw_14 gw_455 hd_X5_begin hC hw (c_X5_begin γ l h hn t tg ob b mn fa) ⟨by decide, by decide⟩ ⟨by decide, by decide⟩ hl.1 rfl 0 rfl rfl rfl (Nat.le_of_ble_eq_true rfl) [0, 1] [2] rfl rfl rfl rfl (by decide) dX5_readAbbey_6 (fun r w1 H locs hq hw => ?_)
  obtain ⟨rfl, rfl⟩ := hq
  have hw : kW γ A [(b, .inr (0, [.ref b0, .ref b1, .ref b2, .ref b3, .ref b4, .ref b5, .ref b6, .ref b7, .int 0, .int 0, .int 10, .int 10, .int 3, .int 0, .int 0, .int 0, .int 0, .int 0, .int 0])), (h, .inr (5, [.ref t, .ref hn, .ref b, .int mn, .int 0])), (t, .inr (8, [.ref tg, .int 0, .int 0, .int 0, .int 0, .int 0, .long 0, .ref γ.2.2.2]))] s H locs := hw
  refine W.eq (g2 := F0 m 9 ls []) rfl ?_
  refine lv_iconst (v := 0) hx hb dX5_readAbbey_9 (by decide) ?_
  refine lv_istore_n (lv' := [(2, .int 0), (0, .ref h), (1, .ref b)]) hx hb dX5_readAbbey_10 rfl hl (by decide) rfl (fun ls hl => ?_)
  refine lv_iload_n hx hb dX5_readAbbey_11 rfl (lv_at hl 0 rfl) ?_
  refine lv_sipush (v := 1000) hx hb dX5_readAbbey_12 (by decide) ?_
  refine lv_icmp_ge (tgt := 137) hx hb dX5_readAbbey_15 (by decide) (fun h => absurd h (by decide)) (fun _ => ?_)
  refine lv_aload_n hx hb dX5_readAbbey_18 rfl (lv_at hl 1 rfl) ?_
  refine k_V (wr := [(b, .inr (0, [.ref b0, .ref b1, .ref b2, .ref b3, .ref b4, .ref b5, .ref b6, .ref b7, .int 0, .int 0, .int 10, .int 10, .int 3, .int 0, .int 0, .int 0, .int 0, .int 0, .int 0]))]) 0 gw_483 gw_485 gp_3 gw_14 gw_486 hd_X5_goesOn hC hw (c_X5_goesOn γ l h hn t tg b mn) ⟨by decide, by decide⟩ ⟨by decide, by decide⟩ hl.1 rfl 1 rfl rfl rfl (Nat.le_of_ble_eq_true rfl) [1, 2] [0] rfl rfl rfl rfl (by decide) dX5_readAbbey_19 (fun r w1 H locs hq hw => ?_)
  obtain ⟨rfl, rfl⟩ := hq
  have hw : kW γ A [(b, .inr (0, [.ref b0, .ref b1, .ref b2, .ref b3, .ref b4, .ref b5, .ref b6, .ref b7, .int 0, .int 0, .int 10, .int 10, .int 3, .int 0, .int 0, .int 0, .int 0, .int 0, .int 0])), (h, .inr (5, [.ref t, .ref hn, .ref b, .int mn, .int 0])), (t, .inr (8, [.ref tg, .int 0, .int 0, .int 0, .int 0, .int 0, .long 0, .ref γ.2.2.2]))] s H locs := hw
  refine W.eq (g2 := F0 m 22 ls [.int 0]) rfl ?_
  refine lv_if_eq (tgt := 137) hx hb dX5_readAbbey_22 (by decide) (fun _ => ?_) (fun h => absurd (by decide) h)
  refine lv_aload_n hx hb dX5_readAbbey_137 rfl (lv_at hl 1 rfl) ?_
  refine fg_RX5_15 hC hw 1 rfl rfl dX5_readAbbey_138 ?_
  refine k_V (wr := [(b, .inr (0, [.ref b0, .ref b1, .ref b2, .ref b3, .ref b4, .ref b5, .ref b6, .ref b7, .int 0, .int 0, .int 10, .int 10, .int 3, .int 0, .int 0, .int 0, .int 0, .int 0, .int 0])), (h, .inr (5, [.ref t, .ref hn, .ref b, .int mn, .int 0]))]) 0 gw_643 gw_644 gw_645 gw_2 gw_646 hd_X8_empty hC hw (c_X8_empty γ l t tg 0 0 0 0 0 0 γ.2.2.2) ⟨by decide, by decide⟩ ⟨by decide, by decide⟩ hl.1 rfl 2 rfl rfl rfl (Nat.le_of_ble_eq_true rfl) [2] [0, 1] rfl rfl rfl rfl (by decide) dX5_readAbbey_141 (fun r w1 H locs hq hw => ?_)
  obtain ⟨rfl, rfl⟩ := hq
  have hw : kW γ A [(b, .inr (0, [.ref b0, .ref b1, .ref b2, .ref b3, .ref b4, .ref b5, .ref b6, .ref b7, .int 0, .int 0, .int 10, .int 10, .int 3, .int 0, .int 0, .int 0, .int 0, .int 0, .int 0])), (h, .inr (5, [.ref t, .ref hn, .ref b, .int mn, .int 0])), (t, .inr (8, [.ref tg, .int 0, .int 0, .int 0, .int 0, .int 0, .long 0, .ref γ.2.2.2]))] s H locs := hw
  refine W.eq (g2 := F0 m 144 ls []) rfl ?_
  refine lv_aload_n hx hb dX5_readAbbey_144 rfl (lv_at hl 1 rfl) ?_
  refine fg_RX5_91 hC hw 1 rfl rfl dX5_readAbbey_145 ?_
  exact k_iret hC hr hlocks hw [1, 2, 0] rfl rfl ⟨rfl, rfl⟩ (by decide) (by decide) dX5_readAbbey_148

set_option maxHeartbeats 4000000 in
set_option maxRecDepth 100000 in
theorem c_X5_readYears (γ : kΓ) (l : Launch) (h : Nat) (hn : Nat) (t : Nat) (tg : Nat) (ob : Nat) (b : Nat) (fn : Nat → Int32) (mn : Int32) (fa : Int32) (g : Nat) (gs : Nat) (gy : Nat) (gq : Nat) (fy : Nat → Int32) (u3 : Int32) (u4 : Int32) (u5 : Int32) : kM γ l yX5_readYears cX5_readYears 4 ((some .int)) ({ frames := 3, cells := 0, slots := 0, locals := 80 } : Room) [.ref h, .ref b, .ref g] [(h, .inr (5, [.ref t, .ref hn, .ref ob, .int mn, .int fa])), (hn, .inl (γ.2.1 0, 40, .inl fn)), (t, .inr (8, [.ref tg, .int 0, .int 0, .int 0, .int 0, .int 0, .long 0, .ref γ.2.2.2])), (g, .inr (3, [.ref gs, .ref gy, .ref gq, .int u3, .int u4, .int u5])), (gy, .inl (γ.2.1 0, 40, .inl fy))] (fun r w1 => r = some (.int 0) ∧ w1 = []) := by
  refine k_ofW (by decide) (Nat.le_of_ble_eq_true rfl) ?_
  intro p e s m below meth c A ls hC hr hlocks hname hw hl
  have hx := hC.1
  have hb := hC.2.1
  have hl : lv_has ls 4 [(0, .ref h), (1, .ref b), (2, .ref g)] := hl
  refine lv_aload_n hx hb dX5_readYears_0 rfl (lv_at hl 0 rfl) ?_
  refine lv_aload_n hx hb dX5_readYears_1 rfl (lv_at hl 1 rfl) ?_
  refine k_V (wr := [(hn, .inl (γ.2.1 0, 40, .inl fn)), (g, .inr (3, [.ref gs, .ref gy, .ref gq, .int u3, .int u4, .int u5])), (gy, .inl (γ.2.1 0, 40, .inl fy))]) 1 gw_452 gw_454 gp_0 gw_14 gw_455 hd_X5_begin hC hw (c_X5_begin γ l h hn t tg ob b mn fa) ⟨by decide, by decide⟩ ⟨by decide, by decide⟩ hl.1 rfl 0 rfl rfl rfl (Nat.le_of_ble_eq_true rfl) [0, 2] [1, 3, 4] rfl rfl rfl rfl (by decide) dX5_readYears_2 (fun r w1 H locs hq hw => ?_)
  obtain ⟨rfl, rfl⟩ := hq
  have hw : kW γ A [(hn, .inl (γ.2.1 0, 40, .inl fn)), (g, .inr (3, [.ref gs, .ref gy, .ref gq, .int u3, .int u4, .int u5])), (gy, .inl (γ.2.1 0, 40, .inl fy)), (h, .inr (5, [.ref t, .ref hn, .ref b, .int mn, .int 0])), (t, .inr (8, [.ref tg, .int 0, .int 0, .int 0, .int 0, .int 0, .long 0, .ref γ.2.2.2]))] s H locs := hw
  refine W.eq (g2 := F0 m 5 ls []) rfl ?_
  refine lv_aload_n hx hb dX5_readYears_5 rfl (lv_at hl 0 rfl) ?_
  refine lv_iconst (v := 0) hx hb dX5_readYears_6 (by decide) ?_
  refine fs_RX5_95 hC hw 3 rfl rfl rfl (Nat.le_of_ble_eq_true rfl) dX5_readYears_7 (fun H locs hw => ?_)
  have hw : kW γ A [(hn, .inl (γ.2.1 0, 40, .inl fn)), (g, .inr (3, [.ref gs, .ref gy, .ref gq, .int u3, .int u4, .int u5])), (gy, .inl (γ.2.1 0, 40, .inl fy)), (h, .inr (5, [.ref t, .ref hn, .ref b, .int 0, .int 0])), (t, .inr (8, [.ref tg, .int 0, .int 0, .int 0, .int 0, .int 0, .long 0, .ref γ.2.2.2]))] s H locs := hw
  refine lv_iconst (v := 0) hx hb dX5_readYears_10 (by decide) ?_
  refine lv_istore_n (lv' := [(3, .int 0), (0, .ref h), (1, .ref b), (2, .ref g)]) hx hb dX5_readYears_11 rfl hl (by decide) rfl (fun ls hl => ?_)
  refine lv_iload_n hx hb dX5_readYears_12 rfl (lv_at hl 0 rfl) ?_
  refine lv_sipush (v := 1000) hx hb dX5_readYears_13 (by decide) ?_
  refine lv_icmp_ge (tgt := 36) hx hb dX5_readYears_16 (by decide) (fun h => absurd h (by decide)) (fun _ => ?_)
  refine lv_aload_n hx hb dX5_readYears_19 rfl (lv_at hl 1 rfl) ?_
  refine k_V (wr := [(hn, .inl (γ.2.1 0, 40, .inl fn)), (g, .inr (3, [.ref gs, .ref gy, .ref gq, .int u3, .int u4, .int u5])), (gy, .inl (γ.2.1 0, 40, .inl fy))]) 0 gw_483 gw_485 gp_3 gw_14 gw_486 hd_X5_goesOn hC hw (c_X5_goesOn γ l h hn t tg b 0) ⟨by decide, by decide⟩ ⟨by decide, by decide⟩ hl.1 rfl 3 rfl rfl rfl (Nat.le_of_ble_eq_true rfl) [3, 4] [0, 1, 2] rfl rfl rfl rfl (by decide) dX5_readYears_20 (fun r w1 H locs hq hw => ?_)
  obtain ⟨rfl, rfl⟩ := hq
  have hw : kW γ A [(hn, .inl (γ.2.1 0, 40, .inl fn)), (g, .inr (3, [.ref gs, .ref gy, .ref gq, .int u3, .int u4, .int u5])), (gy, .inl (γ.2.1 0, 40, .inl fy)), (h, .inr (5, [.ref t, .ref hn, .ref b, .int 0, .int 0])), (t, .inr (8, [.ref tg, .int 0, .int 0, .int 0, .int 0, .int 0, .long 0, .ref γ.2.2.2]))] s H locs := hw
  refine W.eq (g2 := F0 m 23 ls [.int 0]) rfl ?_
  refine lv_if_eq (tgt := 36) hx hb dX5_readYears_23 (by decide) (fun _ => ?_) (fun h => absurd (by decide) h)
  refine lv_aload_n hx hb dX5_readYears_36 rfl (lv_at hl 1 rfl) ?_
  refine fg_RX5_15 hC hw 3 rfl rfl dX5_readYears_37 ?_
  refine k_V (wr := [(hn, .inl (γ.2.1 0, 40, .inl fn)), (g, .inr (3, [.ref gs, .ref gy, .ref gq, .int u3, .int u4, .int u5])), (gy, .inl (γ.2.1 0, 40, .inl fy)), (h, .inr (5, [.ref t, .ref hn, .ref b, .int 0, .int 0]))]) 0 gw_643 gw_644 gw_645 gw_2 gw_646 hd_X8_empty hC hw (c_X8_empty γ l t tg 0 0 0 0 0 0 γ.2.2.2) ⟨by decide, by decide⟩ ⟨by decide, by decide⟩ hl.1 rfl 4 rfl rfl rfl (Nat.le_of_ble_eq_true rfl) [4] [0, 1, 2, 3] rfl rfl rfl rfl (by decide) dX5_readYears_40 (fun r w1 H locs hq hw => ?_)
  obtain ⟨rfl, rfl⟩ := hq
  have hw : kW γ A [(hn, .inl (γ.2.1 0, 40, .inl fn)), (g, .inr (3, [.ref gs, .ref gy, .ref gq, .int u3, .int u4, .int u5])), (gy, .inl (γ.2.1 0, 40, .inl fy)), (h, .inr (5, [.ref t, .ref hn, .ref b, .int 0, .int 0])), (t, .inr (8, [.ref tg, .int 0, .int 0, .int 0, .int 0, .int 0, .long 0, .ref γ.2.2.2]))] s H locs := hw
  refine W.eq (g2 := F0 m 43 ls []) rfl ?_
  refine lv_aload_n hx hb dX5_readYears_43 rfl (lv_at hl 1 rfl) ?_
  refine fg_RX5_91 hC hw 3 rfl rfl dX5_readYears_44 ?_
  refine lv_if_ne (tgt := 75) hx hb dX5_readYears_47 (by decide) (fun h => absurd rfl h) (fun _ => ?_)
  refine lv_aload_n hx hb dX5_readYears_50 rfl (lv_at hl 1 rfl) ?_
  refine fg_RX5_9 hC hw 3 rfl rfl dX5_readYears_51 ?_
  refine lv_iconst (v := 0) hx hb dX5_readYears_54 (by decide) ?_
  refine lv_aload_n hx hb dX5_readYears_55 rfl (lv_at hl 3 rfl) ?_
  refine fg_RX5_101 hC hw 1 rfl rfl dX5_readYears_56 ?_
  refine lv_iconst (v := 0) hx hb dX5_readYears_59 (by decide) ?_
  refine lv_aload_n hx hb dX5_readYears_60 rfl (lv_at hl 1 rfl) ?_
  refine fg_RX5_95 hC hw 3 rfl rfl dX5_readYears_61 ?_
  refine k_copyi hC hw gw_690 hl.1 0 2 rfl rfl (by decide) (by decide) (by decide) (by decide) (by decide) (by decide) (by decide) dX5_readYears_64 (fun H locs hw => ?_)
  obtain ⟨f_766, ef_766⟩ : ∃ g, g = va_cpy fn fy (0 : Int32).toNatClampNeg (0 : Int32).toNatClampNeg (0 : Int32).toNatClampNeg := ⟨_, rfl⟩
  have hw : kW γ A [(hn, .inl (γ.2.1 0, 40, .inl fn)), (g, .inr (3, [.ref gs, .ref gy, .ref gq, .int u3, .int u4, .int u5])), (gy, .inl (γ.2.1 0, 40, .inl f_766)), (h, .inr (5, [.ref t, .ref hn, .ref b, .int 0, .int 0])), (t, .inr (8, [.ref tg, .int 0, .int 0, .int 0, .int 0, .int 0, .long 0, .ref γ.2.2.2]))] s H locs := by rw [ef_766]; exact hw
  refine W.eq (g2 := F0 m 67 ls []) rfl ?_
  refine lv_aload_n hx hb dX5_readYears_67 rfl (lv_at hl 3 rfl) ?_
  refine lv_aload_n hx hb dX5_readYears_68 rfl (lv_at hl 1 rfl) ?_
  refine fg_RX5_95 hC hw 3 rfl rfl dX5_readYears_69 ?_
  refine fs_RX5_112 hC hw 1 rfl rfl rfl (Nat.le_of_ble_eq_true rfl) dX5_readYears_72 (fun H locs hw => ?_)
  have hw : kW γ A [(hn, .inl (γ.2.1 0, 40, .inl fn)), (g, .inr (3, [.ref gs, .ref gy, .ref gq, .int 0, .int u4, .int u5])), (gy, .inl (γ.2.1 0, 40, .inl f_766)), (h, .inr (5, [.ref t, .ref hn, .ref b, .int 0, .int 0])), (t, .inr (8, [.ref tg, .int 0, .int 0, .int 0, .int 0, .int 0, .long 0, .ref γ.2.2.2]))] s H locs := hw
  refine lv_aload_n hx hb dX5_readYears_75 rfl (lv_at hl 1 rfl) ?_
  refine fg_RX5_91 hC hw 3 rfl rfl dX5_readYears_76 ?_
  exact k_iret hC hr hlocks hw [] rfl rfl ⟨rfl, rfl⟩ (by decide) (by decide) dX5_readYears_79

set_option maxHeartbeats 4000000 in
set_option maxRecDepth 100000 in
theorem c_X11_beginAnew (γ : kΓ) (l : Launch) (x : Nat) (x0 : Nat) (x1 : Nat) (x2 : Nat) (x3 : Nat) (x4 : Nat) (x5 : Nat) (x6 : Nat) (x7 : Nat) (x8 : Nat) (x9 : Nat) (x10 : Nat) (ua : Nat) (x2s : Nat) (x2s_l : Nat) (x2s_c : Nat) (x2s_g : Nat) (x2s_r : Nat) (x2s_k : Nat) (x2s_b : Nat) (x2y : Nat) (x2q : Nat) (fx2s_l : Nat → Int32) (fx2s_c : Nat → Int32) (fx2s_g : Nat → Int32) (fx2s_r : Nat → Int64) (fx2s_k : Nat → Int32) (fx2s_b : Nat → Int32) (fx2y : Nat → Int32) (fx2q : Nat → Int32) (fm : Nat → Option Nat) (ma : Nat) (mas : Nat) (may : Nat) (maq : Nat) (mb : Nat) (mbs : Nat) (mby : Nat) (mbq : Nat) (mc : Nat) (mcs : Nat) (mcy : Nat) (mcq : Nat) (md : Nat) (mds : Nat) (mdy : Nat) (mdq : Nat) (hm0 : fm 0 = some ma) (hm1 : fm 1 = some mb) (hm2 : fm 2 = some mc) (hm3 : fm 3 = some md) : kM γ l yX11_beginAnew cX11_beginAnew 2 none ({ frames := 3, cells := 0, slots := 0, locals := 64 } : Room) [.ref x] [(x, .inr (10, [.ref x0, .ref x1, .ref x2, .ref x3, .ref x4, .ref x5, .ref x6, .ref x7, .ref x8, .ref x9, .ref x10])), (x1, .inr (9, [.ref ua, .int 0, .int 0])), (x2, .inr (3, [.ref x2s, .ref x2y, .ref x2q, .int 0, .int 0, .int 0])), (x2s, .inr (7, [.ref x2s_l, .ref x2s_c, .ref x2s_g, .ref x2s_r, .ref x2s_k, .ref x2s_b, .int 0, .int 0, .int 0])), (x2s_l, .inl (γ.2.1 0, 5, .inl fx2s_l)), (x2s_c, .inl (γ.2.1 0, 5, .inl fx2s_c)), (x2s_g, .inl (γ.2.1 0, 5, .inl fx2s_g)), (x2s_r, .inl (γ.2.1 1, 5, .inr (.inl fx2s_r))), (x2s_k, .inl (γ.2.1 0, 40, .inl fx2s_k)), (x2s_b, .inl (γ.2.1 0, 8, .inl fx2s_b)), (x2y, .inl (γ.2.1 0, 40, .inl fx2y)), (x2q, .inl (γ.2.1 0, 8, .inl fx2q)), (x3, .inl (γ.2.1 4, 4, .inr (.inr (.inr (.inr fm))))), (ma, .inr (3, [.ref mas, .ref may, .ref maq, .int 0, .int 0, .int 0])), (mb, .inr (3, [.ref mbs, .ref mby, .ref mbq, .int 0, .int 0, .int 0])), (mc, .inr (3, [.ref mcs, .ref mcy, .ref mcq, .int 0, .int 0, .int 0])), (md, .inr (3, [.ref mds, .ref mdy, .ref mdq, .int 0, .int 0, .int 0]))] (fun r w1 => r = none ∧ w1 = []) := by
  refine k_ofW (by decide) (Nat.le_of_ble_eq_true rfl) ?_
  intro p e s m below meth c A ls hC hr hlocks hname hw hl
  have hx := hC.1
  have hb := hC.2.1
  have hl : lv_has ls 2 [(0, .ref x)] := hl
  refine lv_aload_n hx hb dX11_beginAnew_0 rfl (lv_at hl 0 rfl) ?_
  refine fg_RX11_26 hC hw 0 rfl rfl dX11_beginAnew_1 ?_
  refine k_V (wr := [(x, .inr (10, [.ref x0, .ref x1, .ref x2, .ref x3, .ref x4, .ref x5, .ref x6, .ref x7, .ref x8, .ref x9, .ref x10])), (x1, .inr (9, [.ref ua, .int 0, .int 0])), (x3, .inl (γ.2.1 4, 4, .inr (.inr (.inr (.inr fm))))), (ma, .inr (3, [.ref mas, .ref may, .ref maq, .int 0, .int 0, .int 0])), (mb, .inr (3, [.ref mbs, .ref mby, .ref mbq, .int 0, .int 0, .int 0])), (mc, .inr (3, [.ref mcs, .ref mcy, .ref mcq, .int 0, .int 0, .int 0])), (md, .inr (3, [.ref mds, .ref mdy, .ref mdq, .int 0, .int 0, .int 0]))]) 0 gw_651 gw_652 gw_653 gw_8 gw_654 hd_X3_clear hC hw (c_X3_clear γ l x2 x2s x2s_l x2s_c x2s_g x2s_r x2s_k x2s_b x2y x2q fx2s_l fx2s_c fx2s_g fx2s_r fx2s_k fx2s_b fx2y fx2q 0 0 0 0 0 0) ⟨by decide, by decide⟩ ⟨by decide, by decide⟩ hl.1 rfl 2 rfl rfl rfl (Nat.le_of_ble_eq_true rfl) [2, 3, 4, 5, 6, 7, 8, 9, 10, 11] [0, 1, 12, 13, 14, 15, 16] rfl rfl rfl rfl (by decide) dX11_beginAnew_4 (fun r w1 H locs hq hw => ?_)
  obtain ⟨ghs_l_767, ghs_c_768, ghs_g_769, ghs_r_770, ghs_k_771, ghs_b_772, rfl, rfl, g_773, g_774, g_775, g_776, g_777, g_778⟩ := hq
  have hw : kW γ A [(x, .inr (10, [.ref x0, .ref x1, .ref x2, .ref x3, .ref x4, .ref x5, .ref x6, .ref x7, .ref x8, .ref x9, .ref x10])), (x1, .inr (9, [.ref ua, .int 0, .int 0])), (x3, .inl (γ.2.1 4, 4, .inr (.inr (.inr (.inr fm))))), (ma, .inr (3, [.ref mas, .ref may, .ref maq, .int 0, .int 0, .int 0])), (mb, .inr (3, [.ref mbs, .ref mby, .ref mbq, .int 0, .int 0, .int 0])), (mc, .inr (3, [.ref mcs, .ref mcy, .ref mcq, .int 0, .int 0, .int 0])), (md, .inr (3, [.ref mds, .ref mdy, .ref mdq, .int 0, .int 0, .int 0])), (x2, .inr (3, [.ref x2s, .ref x2y, .ref x2q, .int 0, .int 0, .int 0])), (x2s, .inr (7, [.ref x2s_l, .ref x2s_c, .ref x2s_g, .ref x2s_r, .ref x2s_k, .ref x2s_b, .int 0, .int 0, .int 0])), (x2s_l, .inl (γ.2.1 0, 5, .inl ghs_l_767)), (x2s_c, .inl (γ.2.1 0, 5, .inl ghs_c_768)), (x2s_g, .inl (γ.2.1 0, 5, .inl ghs_g_769)), (x2s_r, .inl (γ.2.1 1, 5, .inr (.inl ghs_r_770))), (x2s_k, .inl (γ.2.1 0, 40, .inl ghs_k_771)), (x2s_b, .inl (γ.2.1 0, 8, .inl ghs_b_772)), (x2y, .inl (γ.2.1 0, 40, .inl fx2y)), (x2q, .inl (γ.2.1 0, 8, .inl fx2q))] s H locs := hw
  refine W.eq (g2 := F0 m 7 ls []) rfl ?_
  refine lv_aload_n hx hb dX11_beginAnew_7 rfl (lv_at hl 0 rfl) ?_
  refine fg_RX11_19 hC hw 0 rfl rfl dX11_beginAnew_8 ?_
  refine k_V (wr := [(x, .inr (10, [.ref x0, .ref x1, .ref x2, .ref x3, .ref x4, .ref x5, .ref x6, .ref x7, .ref x8, .ref x9, .ref x10])), (x3, .inl (γ.2.1 4, 4, .inr (.inr (.inr (.inr fm))))), (ma, .inr (3, [.ref mas, .ref may, .ref maq, .int 0, .int 0, .int 0])), (mb, .inr (3, [.ref mbs, .ref mby, .ref mbq, .int 0, .int 0, .int 0])), (mc, .inr (3, [.ref mcs, .ref mcy, .ref mcq, .int 0, .int 0, .int 0])), (md, .inr (3, [.ref mds, .ref mdy, .ref mdq, .int 0, .int 0, .int 0])), (x2, .inr (3, [.ref x2s, .ref x2y, .ref x2q, .int 0, .int 0, .int 0])), (x2s, .inr (7, [.ref x2s_l, .ref x2s_c, .ref x2s_g, .ref x2s_r, .ref x2s_k, .ref x2s_b, .int 0, .int 0, .int 0])), (x2s_l, .inl (γ.2.1 0, 5, .inl ghs_l_767)), (x2s_c, .inl (γ.2.1 0, 5, .inl ghs_c_768)), (x2s_g, .inl (γ.2.1 0, 5, .inl ghs_g_769)), (x2s_r, .inl (γ.2.1 1, 5, .inr (.inl ghs_r_770))), (x2s_k, .inl (γ.2.1 0, 40, .inl ghs_k_771)), (x2s_b, .inl (γ.2.1 0, 8, .inl ghs_b_772)), (x2y, .inl (γ.2.1 0, 40, .inl fx2y)), (x2q, .inl (γ.2.1 0, 8, .inl fx2q))]) 0 gw_656 gw_657 gw_658 gw_5 gw_659 hd_X9_clear hC hw (c_X9_clear γ l x1 ua 0 0) ⟨by decide, by decide⟩ ⟨by decide, by decide⟩ hl.1 rfl 1 rfl rfl rfl (Nat.le_of_ble_eq_true rfl) [1] [0, 2, 3, 4, 5, 6, 7, 8, 9, 10, 11, 12, 13, 14, 15, 16] rfl rfl rfl rfl (by decide) dX11_beginAnew_11 (fun r w1 H locs hq hw => ?_)
  obtain ⟨rfl, rfl⟩ := hq
  have hw : kW γ A [(x, .inr (10, [.ref x0, .ref x1, .ref x2, .ref x3, .ref x4, .ref x5, .ref x6, .ref x7, .ref x8, .ref x9, .ref x10])), (x3, .inl (γ.2.1 4, 4, .inr (.inr (.inr (.inr fm))))), (ma, .inr (3, [.ref mas, .ref may, .ref maq, .int 0, .int 0, .int 0])), (mb, .inr (3, [.ref mbs, .ref mby, .ref mbq, .int 0, .int 0, .int 0])), (mc, .inr (3, [.ref mcs, .ref mcy, .ref mcq, .int 0, .int 0, .int 0])), (md, .inr (3, [.ref mds, .ref mdy, .ref mdq, .int 0, .int 0, .int 0])), (x2, .inr (3, [.ref x2s, .ref x2y, .ref x2q, .int 0, .int 0, .int 0])), (x2s, .inr (7, [.ref x2s_l, .ref x2s_c, .ref x2s_g, .ref x2s_r, .ref x2s_k, .ref x2s_b, .int 0, .int 0, .int 0])), (x2s_l, .inl (γ.2.1 0, 5, .inl ghs_l_767)), (x2s_c, .inl (γ.2.1 0, 5, .inl ghs_c_768)), (x2s_g, .inl (γ.2.1 0, 5, .inl ghs_g_769)), (x2s_r, .inl (γ.2.1 1, 5, .inr (.inl ghs_r_770))), (x2s_k, .inl (γ.2.1 0, 40, .inl ghs_k_771)), (x2s_b, .inl (γ.2.1 0, 8, .inl ghs_b_772)), (x2y, .inl (γ.2.1 0, 40, .inl fx2y)), (x2q, .inl (γ.2.1 0, 8, .inl fx2q)), (x1, .inr (9, [.ref ua, .int 0, .int 0]))] s H locs := hw
  refine W.eq (g2 := F0 m 14 ls []) rfl ?_
  refine lv_iconst (v := 0) hx hb dX11_beginAnew_14 (by decide) ?_
  refine lv_istore_n (lv' := [(1, .int 0), (0, .ref x)]) hx hb dX11_beginAnew_15 rfl hl (by decide) rfl (fun ls hl => ?_)
  refine lv_iload_n hx hb dX11_beginAnew_16 rfl (lv_at hl 0 rfl) ?_
  refine lv_iconst (v := 4) hx hb dX11_beginAnew_17 (by decide) ?_
  refine lv_icmp_ge (tgt := 37) hx hb dX11_beginAnew_18 (by decide) (fun h => absurd h (by decide)) (fun _ => ?_)
  refine lv_aload_n hx hb dX11_beginAnew_21 rfl (lv_at hl 1 rfl) ?_
  refine fg_RX11_30 hC hw 0 rfl rfl dX11_beginAnew_22 ?_
  refine lv_iload_n hx hb dX11_beginAnew_25 rfl (lv_at hl 0 rfl) ?_
  refine k_aldq hC hw 1 4 rfl rfl (k_in0 (by decide)) (v := .ref ma) (by rw [show (0 : Int32).toNatClampNeg = 0 from by decide, hm0]; rfl) dX11_beginAnew_26 ?_
  refine lv_iconst (v := 0) hx hb dX11_beginAnew_27 (by decide) ?_
  refine fs_RX11_104 hC hw 2 rfl rfl rfl (Nat.le_of_ble_eq_true rfl) dX11_beginAnew_28 (fun H locs hw => ?_)
  have hw : kW γ A [(x, .inr (10, [.ref x0, .ref x1, .ref x2, .ref x3, .ref x4, .ref x5, .ref x6, .ref x7, .ref x8, .ref x9, .ref x10])), (x3, .inl (γ.2.1 4, 4, .inr (.inr (.inr (.inr fm))))), (ma, .inr (3, [.ref mas, .ref may, .ref maq, .int 0, .int 0, .int 0])), (mb, .inr (3, [.ref mbs, .ref mby, .ref mbq, .int 0, .int 0, .int 0])), (mc, .inr (3, [.ref mcs, .ref mcy, .ref mcq, .int 0, .int 0, .int 0])), (md, .inr (3, [.ref mds, .ref mdy, .ref mdq, .int 0, .int 0, .int 0])), (x2, .inr (3, [.ref x2s, .ref x2y, .ref x2q, .int 0, .int 0, .int 0])), (x2s, .inr (7, [.ref x2s_l, .ref x2s_c, .ref x2s_g, .ref x2s_r, .ref x2s_k, .ref x2s_b, .int 0, .int 0, .int 0])), (x2s_l, .inl (γ.2.1 0, 5, .inl ghs_l_767)), (x2s_c, .inl (γ.2.1 0, 5, .inl ghs_c_768)), (x2s_g, .inl (γ.2.1 0, 5, .inl ghs_g_769)), (x2s_r, .inl (γ.2.1 1, 5, .inr (.inl ghs_r_770))), (x2s_k, .inl (γ.2.1 0, 40, .inl ghs_k_771)), (x2s_b, .inl (γ.2.1 0, 8, .inl ghs_b_772)), (x2y, .inl (γ.2.1 0, 40, .inl fx2y)), (x2q, .inl (γ.2.1 0, 8, .inl fx2q)), (x1, .inr (9, [.ref ua, .int 0, .int 0]))] s H locs := hw
  refine lv_iinc (v := 1) (lv' := [(1, .int 1), (0, .ref x)]) hx hb dX11_beginAnew_31 hl (k := 0) rfl (by decide) (by decide) rfl (fun ls hl => ?_)
  refine lv_goto (tgt := 16) hx hb dX11_beginAnew_34 (by decide) ?_
  refine lv_iload_n hx hb dX11_beginAnew_16 rfl (lv_at hl 0 rfl) ?_
  refine lv_iconst (v := 4) hx hb dX11_beginAnew_17 (by decide) ?_
  refine lv_icmp_ge (tgt := 37) hx hb dX11_beginAnew_18 (by decide) (fun h => absurd h (by decide)) (fun _ => ?_)
  refine lv_aload_n hx hb dX11_beginAnew_21 rfl (lv_at hl 1 rfl) ?_
  refine fg_RX11_30 hC hw 0 rfl rfl dX11_beginAnew_22 ?_
  refine lv_iload_n hx hb dX11_beginAnew_25 rfl (lv_at hl 0 rfl) ?_
  refine k_aldq hC hw 1 4 rfl rfl (k_in0 (by decide)) (v := .ref mb) (by rw [show (1 : Int32).toNatClampNeg = 1 from by decide, hm1]; rfl) dX11_beginAnew_26 ?_
  refine lv_iconst (v := 0) hx hb dX11_beginAnew_27 (by decide) ?_
  refine fs_RX11_104 hC hw 3 rfl rfl rfl (Nat.le_of_ble_eq_true rfl) dX11_beginAnew_28 (fun H locs hw => ?_)
  have hw : kW γ A [(x, .inr (10, [.ref x0, .ref x1, .ref x2, .ref x3, .ref x4, .ref x5, .ref x6, .ref x7, .ref x8, .ref x9, .ref x10])), (x3, .inl (γ.2.1 4, 4, .inr (.inr (.inr (.inr fm))))), (ma, .inr (3, [.ref mas, .ref may, .ref maq, .int 0, .int 0, .int 0])), (mb, .inr (3, [.ref mbs, .ref mby, .ref mbq, .int 0, .int 0, .int 0])), (mc, .inr (3, [.ref mcs, .ref mcy, .ref mcq, .int 0, .int 0, .int 0])), (md, .inr (3, [.ref mds, .ref mdy, .ref mdq, .int 0, .int 0, .int 0])), (x2, .inr (3, [.ref x2s, .ref x2y, .ref x2q, .int 0, .int 0, .int 0])), (x2s, .inr (7, [.ref x2s_l, .ref x2s_c, .ref x2s_g, .ref x2s_r, .ref x2s_k, .ref x2s_b, .int 0, .int 0, .int 0])), (x2s_l, .inl (γ.2.1 0, 5, .inl ghs_l_767)), (x2s_c, .inl (γ.2.1 0, 5, .inl ghs_c_768)), (x2s_g, .inl (γ.2.1 0, 5, .inl ghs_g_769)), (x2s_r, .inl (γ.2.1 1, 5, .inr (.inl ghs_r_770))), (x2s_k, .inl (γ.2.1 0, 40, .inl ghs_k_771)), (x2s_b, .inl (γ.2.1 0, 8, .inl ghs_b_772)), (x2y, .inl (γ.2.1 0, 40, .inl fx2y)), (x2q, .inl (γ.2.1 0, 8, .inl fx2q)), (x1, .inr (9, [.ref ua, .int 0, .int 0]))] s H locs := hw
  refine lv_iinc (v := 2) (lv' := [(1, .int 2), (0, .ref x)]) hx hb dX11_beginAnew_31 hl (k := 0) rfl (by decide) (by decide) rfl (fun ls hl => ?_)
  refine lv_goto (tgt := 16) hx hb dX11_beginAnew_34 (by decide) ?_
  refine lv_iload_n hx hb dX11_beginAnew_16 rfl (lv_at hl 0 rfl) ?_
  refine lv_iconst (v := 4) hx hb dX11_beginAnew_17 (by decide) ?_
  refine lv_icmp_ge (tgt := 37) hx hb dX11_beginAnew_18 (by decide) (fun h => absurd h (by decide)) (fun _ => ?_)
  refine lv_aload_n hx hb dX11_beginAnew_21 rfl (lv_at hl 1 rfl) ?_
  refine fg_RX11_30 hC hw 0 rfl rfl dX11_beginAnew_22 ?_
  refine lv_iload_n hx hb dX11_beginAnew_25 rfl (lv_at hl 0 rfl) ?_
  refine k_aldq hC hw 1 4 rfl rfl (k_in0 (by decide)) (v := .ref mc) (by rw [show (2 : Int32).toNatClampNeg = 2 from by decide, hm2]; rfl) dX11_beginAnew_26 ?_
  refine lv_iconst (v := 0) hx hb dX11_beginAnew_27 (by decide) ?_
  refine fs_RX11_104 hC hw 4 rfl rfl rfl (Nat.le_of_ble_eq_true rfl) dX11_beginAnew_28 (fun H locs hw => ?_)
  have hw : kW γ A [(x, .inr (10, [.ref x0, .ref x1, .ref x2, .ref x3, .ref x4, .ref x5, .ref x6, .ref x7, .ref x8, .ref x9, .ref x10])), (x3, .inl (γ.2.1 4, 4, .inr (.inr (.inr (.inr fm))))), (ma, .inr (3, [.ref mas, .ref may, .ref maq, .int 0, .int 0, .int 0])), (mb, .inr (3, [.ref mbs, .ref mby, .ref mbq, .int 0, .int 0, .int 0])), (mc, .inr (3, [.ref mcs, .ref mcy, .ref mcq, .int 0, .int 0, .int 0])), (md, .inr (3, [.ref mds, .ref mdy, .ref mdq, .int 0, .int 0, .int 0])), (x2, .inr (3, [.ref x2s, .ref x2y, .ref x2q, .int 0, .int 0, .int 0])), (x2s, .inr (7, [.ref x2s_l, .ref x2s_c, .ref x2s_g, .ref x2s_r, .ref x2s_k, .ref x2s_b, .int 0, .int 0, .int 0])), (x2s_l, .inl (γ.2.1 0, 5, .inl ghs_l_767)), (x2s_c, .inl (γ.2.1 0, 5, .inl ghs_c_768)), (x2s_g, .inl (γ.2.1 0, 5, .inl ghs_g_769)), (x2s_r, .inl (γ.2.1 1, 5, .inr (.inl ghs_r_770))), (x2s_k, .inl (γ.2.1 0, 40, .inl ghs_k_771)), (x2s_b, .inl (γ.2.1 0, 8, .inl ghs_b_772)), (x2y, .inl (γ.2.1 0, 40, .inl fx2y)), (x2q, .inl (γ.2.1 0, 8, .inl fx2q)), (x1, .inr (9, [.ref ua, .int 0, .int 0]))] s H locs := hw
  refine lv_iinc (v := 3) (lv' := [(1, .int 3), (0, .ref x)]) hx hb dX11_beginAnew_31 hl (k := 0) rfl (by decide) (by decide) rfl (fun ls hl => ?_)
  refine lv_goto (tgt := 16) hx hb dX11_beginAnew_34 (by decide) ?_
  refine lv_iload_n hx hb dX11_beginAnew_16 rfl (lv_at hl 0 rfl) ?_
  refine lv_iconst (v := 4) hx hb dX11_beginAnew_17 (by decide) ?_
  refine lv_icmp_ge (tgt := 37) hx hb dX11_beginAnew_18 (by decide) (fun h => absurd h (by decide)) (fun _ => ?_)
  refine lv_aload_n hx hb dX11_beginAnew_21 rfl (lv_at hl 1 rfl) ?_
  refine fg_RX11_30 hC hw 0 rfl rfl dX11_beginAnew_22 ?_
  refine lv_iload_n hx hb dX11_beginAnew_25 rfl (lv_at hl 0 rfl) ?_
  refine k_aldq hC hw 1 4 rfl rfl (k_in0 (by decide)) (v := .ref md) (by rw [show (3 : Int32).toNatClampNeg = 3 from by decide, hm3]; rfl) dX11_beginAnew_26 ?_
  refine lv_iconst (v := 0) hx hb dX11_beginAnew_27 (by decide) ?_
  refine fs_RX11_104 hC hw 5 rfl rfl rfl (Nat.le_of_ble_eq_true rfl) dX11_beginAnew_28 (fun H locs hw => ?_)
  have hw : kW γ A [(x, .inr (10, [.ref x0, .ref x1, .ref x2, .ref x3, .ref x4, .ref x5, .ref x6, .ref x7, .ref x8, .ref x9, .ref x10])), (x3, .inl (γ.2.1 4, 4, .inr (.inr (.inr (.inr fm))))), (ma, .inr (3, [.ref mas, .ref may, .ref maq, .int 0, .int 0, .int 0])), (mb, .inr (3, [.ref mbs, .ref mby, .ref mbq, .int 0, .int 0, .int 0])), (mc, .inr (3, [.ref mcs, .ref mcy, .ref mcq, .int 0, .int 0, .int 0])), (md, .inr (3, [.ref mds, .ref mdy, .ref mdq, .int 0, .int 0, .int 0])), (x2, .inr (3, [.ref x2s, .ref x2y, .ref x2q, .int 0, .int 0, .int 0])), (x2s, .inr (7, [.ref x2s_l, .ref x2s_c, .ref x2s_g, .ref x2s_r, .ref x2s_k, .ref x2s_b, .int 0, .int 0, .int 0])), (x2s_l, .inl (γ.2.1 0, 5, .inl ghs_l_767)), (x2s_c, .inl (γ.2.1 0, 5, .inl ghs_c_768)), (x2s_g, .inl (γ.2.1 0, 5, .inl ghs_g_769)), (x2s_r, .inl (γ.2.1 1, 5, .inr (.inl ghs_r_770))), (x2s_k, .inl (γ.2.1 0, 40, .inl ghs_k_771)), (x2s_b, .inl (γ.2.1 0, 8, .inl ghs_b_772)), (x2y, .inl (γ.2.1 0, 40, .inl fx2y)), (x2q, .inl (γ.2.1 0, 8, .inl fx2q)), (x1, .inr (9, [.ref ua, .int 0, .int 0]))] s H locs := hw
  refine lv_iinc (v := 4) (lv' := [(1, .int 4), (0, .ref x)]) hx hb dX11_beginAnew_31 hl (k := 0) rfl (by decide) (by decide) rfl (fun ls hl => ?_)
  refine lv_goto (tgt := 16) hx hb dX11_beginAnew_34 (by decide) ?_
  refine lv_iload_n hx hb dX11_beginAnew_16 rfl (lv_at hl 0 rfl) ?_
  refine lv_iconst (v := 4) hx hb dX11_beginAnew_17 (by decide) ?_
  refine lv_icmp_ge (tgt := 37) hx hb dX11_beginAnew_18 (by decide) (fun _ => ?_) (fun h => absurd (by decide) h)
  exact k_vret hC hr hlocks hw [] rfl rfl ⟨rfl, rfl⟩ (by decide) (by decide) dX11_beginAnew_37

set_option maxHeartbeats 4000000 in
set_option maxRecDepth 100000 in
theorem c_X11_abbey (γ : kΓ) (l : Launch) (x : Nat) (x0 : Nat) (x1 : Nat) (x2 : Nat) (x3 : Nat) (x4 : Nat) (x5 : Nat) (x6 : Nat) (x7 : Nat) (x8 : Nat) (x9 : Nat) (x10 : Nat) (x90 : Nat) (x91 : Nat) (x92 : Nat) (x93 : Nat) (x94 : Nat) (x95 : Nat) (x96 : Nat) (x97 : Nat) (x100 : Nat) (x101 : Nat) (x102 : Nat) (x103 : Nat) (x104 : Nat) (x105 : Nat) (x106 : Nat) (x107 : Nat) (ua : Nat) (x0g : Nat) (x8n : Nat) (x2s : Nat) (x2s_l : Nat) (x2s_c : Nat) (x2s_g : Nat) (x2s_r : Nat) (x2s_k : Nat) (x2s_b : Nat) (x2y : Nat) (x2q : Nat) (fx2s_l : Nat → Int32) (fx2s_c : Nat → Int32) (fx2s_g : Nat → Int32) (fx2s_r : Nat → Int64) (fx2s_k : Nat → Int32) (fx2s_b : Nat → Int32) (fx2y : Nat → Int32) (fx2q : Nat → Int32) (fm : Nat → Option Nat) (ma : Nat) (mas : Nat) (may : Nat) (maq : Nat) (mb : Nat) (mbs : Nat) (mby : Nat) (mbq : Nat) (mc : Nat) (mcs : Nat) (mcy : Nat) (mcq : Nat) (md : Nat) (mds : Nat) (mdy : Nat) (mdq : Nat) (hm0 : fm 0 = some ma) (hm1 : fm 1 = some mb) (hm2 : fm 2 = some mc) (hm3 : fm 3 = some md) : kM γ l yX11_abbey cX11_abbey 3 ((some .int)) ({ frames := 4, cells := 0, slots := 0, locals := 85 } : Room) [.ref x] [(x, .inr (10, [.ref x0, .ref x1, .ref x2, .ref x3, .ref x4, .ref x5, .ref x6, .ref x7, .ref x8, .ref x9, .ref x10])), (x9, .inr (0, [.ref x90, .ref x91, .ref x92, .ref x93, .ref x94, .ref x95, .ref x96, .ref x97, .int 0, .int 0, .int 10, .int 10, .int 3, .int 0, .int 0, .int 0, .int 0, .int 0, .int 0])), (x10, .inr (0, [.ref x100, .ref x101, .ref x102, .ref x103, .ref x104, .ref x105, .ref x106, .ref x107, .int 0, .int 0, .int 10, .int 10, .int 3, .int 0, .int 0, .int 0, .int 0, .int 0, .int 0])), (x1, .inr (9, [.ref ua, .int 0, .int 0])), (x0, .inr (8, [.ref x0g, .int 0, .int 0, .int 0, .int 0, .int 0, .long 0, .ref γ.2.2.2])), (x8, .inr (5, [.ref x0, .ref x8n, .ref x9, .int 0, .int 0])), (x2, .inr (3, [.ref x2s, .ref x2y, .ref x2q, .int 0, .int 0, .int 0])), (x2s, .inr (7, [.ref x2s_l, .ref x2s_c, .ref x2s_g, .ref x2s_r, .ref x2s_k, .ref x2s_b, .int 0, .int 0, .int 0])), (x2s_l, .inl (γ.2.1 0, 5, .inl fx2s_l)), (x2s_c, .inl (γ.2.1 0, 5, .inl fx2s_c)), (x2s_g, .inl (γ.2.1 0, 5, .inl fx2s_g)), (x2s_r, .inl (γ.2.1 1, 5, .inr (.inl fx2s_r))), (x2s_k, .inl (γ.2.1 0, 40, .inl fx2s_k)), (x2s_b, .inl (γ.2.1 0, 8, .inl fx2s_b)), (x2y, .inl (γ.2.1 0, 40, .inl fx2y)), (x2q, .inl (γ.2.1 0, 8, .inl fx2q)), (x3, .inl (γ.2.1 4, 4, .inr (.inr (.inr (.inr fm))))), (ma, .inr (3, [.ref mas, .ref may, .ref maq, .int 0, .int 0, .int 0])), (mb, .inr (3, [.ref mbs, .ref mby, .ref mbq, .int 0, .int 0, .int 0])), (mc, .inr (3, [.ref mcs, .ref mcy, .ref mcq, .int 0, .int 0, .int 0])), (md, .inr (3, [.ref mds, .ref mdy, .ref mdq, .int 0, .int 0, .int 0]))] (fun r w1 => r = some (.int 0) ∧ w1 = []) := by
  refine k_ofW (by decide) (Nat.le_of_ble_eq_true rfl) ?_
  intro p e s m below meth c A ls hC hr hlocks hname hw hl
  have hx := hC.1
  have hb := hC.2.1
  have hl : lv_has ls 3 [(0, .ref x)] := hl
  refine lv_aload_n hx hb dX11_abbey_0 rfl (lv_at hl 0 rfl) ?_
  refine fg_RX11_77 hC hw 0 rfl rfl dX11_abbey_1 ?_
  refine lv_aload_n hx hb dX11_abbey_4 rfl (lv_at hl 0 rfl) ?_
  refine fg_RX11_69 hC hw 0 rfl rfl dX11_abbey_5 ?_
  refine k_V (wr := [(x, .inr (10, [.ref x0, .ref x1, .ref x2, .ref x3, .ref x4, .ref x5, .ref x6, .ref x7, .ref x8, .ref x9, .ref x10])), (x9, .inr (0, [.ref x90, .ref x91, .ref x92, .ref x93, .ref x94, .ref x95, .ref x96, .ref x97, .int 0, .int 0, .int 10, .int 10, .int 3, .int 0, .int 0, .int 0, .int 0, .int 0, .int 0])), (x1, .inr (9, [.ref ua, .int 0, .int 0])), (x2, .inr (3, [.ref x2s, .ref x2y, .ref x2q, .int 0, .int 0, .int 0])), (x2s, .inr (7, [.ref x2s_l, .ref x2s_c, .ref x2s_g, .ref x2s_r, .ref x2s_k, .ref x2s_b, .int 0, .int 0, .int 0])), (x2s_l, .inl (γ.2.1 0, 5, .inl fx2s_l)), (x2s_c, .inl (γ.2.1 0, 5, .inl fx2s_c)), (x2s_g, .inl (γ.2.1 0, 5, .inl fx2s_g)), (x2s_r, .inl (γ.2.1 1, 5, .inr (.inl fx2s_r))), (x2s_k, .inl (γ.2.1 0, 40, .inl fx2s_k)), (x2s_b, .inl (γ.2.1 0, 8, .inl fx2s_b)), (x2y, .inl (γ.2.1 0, 40, .inl fx2y)), (x2q, .inl (γ.2.1 0, 8, .inl fx2q)), (x3, .inl (γ.2.1 4, 4, .inr (.inr (.inr (.inr fm))))), (ma, .inr (3, [.ref mas, .ref may, .ref maq, .int 0, .int 0, .int 0])), (mb, .inr (3, [.ref mbs, .ref mby, .ref mbq, .int 0, .int 0, .int 0])), (mc, .inr (3, [.ref mcs, .ref mcy, .ref mcq, .int 0, .int 0, .int 0])), (md, .inr (3, [.ref mds, .ref mdy, .ref mdq, .int 0, .int 0, .int 0]))]) 1 gw_447 gw_448 gw_449 gw_14 gw_450 hd_X5_readAbbey hC hw (c_X5_readAbbey γ l x8 x8n x0 x0g x9 0 0 x10 x100 x101 x102 x103 x104 x105 x106 x107) ⟨by decide, by decide⟩ ⟨by decide, by decide⟩ hl.1 rfl 5 rfl rfl rfl (Nat.le_of_ble_eq_true rfl) [5, 4, 2] [0, 1, 3, 6, 7, 8, 9, 10, 11, 12, 13, 14, 15, 16, 17, 18, 19, 20] rfl rfl rfl rfl (by decide) dX11_abbey_8 (fun r w1 H locs hq hw => ?_)
  obtain ⟨rfl, rfl⟩ := hq
  have hw : kW γ A [(x, .inr (10, [.ref x0, .ref x1, .ref x2, .ref x3, .ref x4, .ref x5, .ref x6, .ref x7, .ref x8, .ref x9, .ref x10])), (x9, .inr (0, [.ref x90, .ref x91, .ref x92, .ref x93, .ref x94, .ref x95, .ref x96, .ref x97, .int 0, .int 0, .int 10, .int 10, .int 3, .int 0, .int 0, .int 0, .int 0, .int 0, .int 0])), (x1, .inr (9, [.ref ua, .int 0, .int 0])), (x2, .inr (3, [.ref x2s, .ref x2y, .ref x2q, .int 0, .int 0, .int 0])), (x2s, .inr (7, [.ref x2s_l, .ref x2s_c, .ref x2s_g, .ref x2s_r, .ref x2s_k, .ref x2s_b, .int 0, .int 0, .int 0])), (x2s_l, .inl (γ.2.1 0, 5, .inl fx2s_l)), (x2s_c, .inl (γ.2.1 0, 5, .inl fx2s_c)), (x2s_g, .inl (γ.2.1 0, 5, .inl fx2s_g)), (x2s_r, .inl (γ.2.1 1, 5, .inr (.inl fx2s_r))), (x2s_k, .inl (γ.2.1 0, 40, .inl fx2s_k)), (x2s_b, .inl (γ.2.1 0, 8, .inl fx2s_b)), (x2y, .inl (γ.2.1 0, 40, .inl fx2y)), (x2q, .inl (γ.2.1 0, 8, .inl fx2q)), (x3, .inl (γ.2.1 4, 4, .inr (.inr (.inr (.inr fm))))), (ma, .inr (3, [.ref mas, .ref may, .ref maq, .int 0, .int 0, .int 0])), (mb, .inr (3, [.ref mbs, .ref mby, .ref mbq, .int 0, .int 0, .int 0])), (mc, .inr (3, [.ref mcs, .ref mcy, .ref mcq, .int 0, .int 0, .int 0])), (md, .inr (3, [.ref mds, .ref mdy, .ref mdq, .int 0, .int 0, .int 0])), (x8, .inr (5, [.ref x0, .ref x8n, .ref x10, .int 0, .int 0])), (x0, .inr (8, [.ref x0g, .int 0, .int 0, .int 0, .int 0, .int 0, .long 0, .ref γ.2.2.2])), (x10, .inr (0, [.ref x100, .ref x101, .ref x102, .ref x103, .ref x104, .ref x105, .ref x106, .ref x107, .int 0, .int 0, .int 10, .int 10, .int 3, .int 0, .int 0, .int 0, .int 0, .int 0, .int 0]))] s H locs := hw
  refine W.eq (g2 := F0 m 11 ls [.int 0]) rfl ?_
  refine lv_istore_n (lv' := [(1, .int 0), (0, .ref x)]) hx hb dX11_abbey_11 rfl hl (by decide) rfl (fun ls hl => ?_)
  refine lv_iload_n hx hb dX11_abbey_12 rfl (lv_at hl 0 rfl) ?_
  refine lv_if_ne (tgt := 38) hx hb dX11_abbey_13 (by decide) (fun h => absurd rfl h) (fun _ => ?_)
  refine lv_aload_n hx hb dX11_abbey_16 rfl (lv_at hl 1 rfl) ?_
  refine fg_RX11_65 hC hw 0 rfl rfl dX11_abbey_17 ?_
  refine lv_astore_n (lv' := [(2, .ref x9), (1, .int 0), (0, .ref x)]) hx hb dX11_abbey_20 rfl hl (by decide) rfl (fun ls hl => ?_)
  refine lv_aload_n hx hb dX11_abbey_21 rfl (lv_at hl 2 rfl) ?_
  refine lv_aload_n hx hb dX11_abbey_22 rfl (lv_at hl 2 rfl) ?_
  refine fg_RX11_69 hC hw 0 rfl rfl dX11_abbey_23 ?_
  refine fs_RX11_65 hC hw 0 rfl rfl rfl (Nat.le_of_ble_eq_true rfl) dX11_abbey_26 (fun H locs hw => ?_)
  have hw : kW γ A [(x, .inr (10, [.ref x0, .ref x1, .ref x2, .ref x3, .ref x4, .ref x5, .ref x6, .ref x7, .ref x8, .ref x10, .ref x10])), (x9, .inr (0, [.ref x90, .ref x91, .ref x92, .ref x93, .ref x94, .ref x95, .ref x96, .ref x97, .int 0, .int 0, .int 10, .int 10, .int 3, .int 0, .int 0, .int 0, .int 0, .int 0, .int 0])), (x1, .inr (9, [.ref ua, .int 0, .int 0])), (x2, .inr (3, [.ref x2s, .ref x2y, .ref x2q, .int 0, .int 0, .int 0])), (x2s, .inr (7, [.ref x2s_l, .ref x2s_c, .ref x2s_g, .ref x2s_r, .ref x2s_k, .ref x2s_b, .int 0, .int 0, .int 0])), (x2s_l, .inl (γ.2.1 0, 5, .inl fx2s_l)), (x2s_c, .inl (γ.2.1 0, 5, .inl fx2s_c)), (x2s_g, .inl (γ.2.1 0, 5, .inl fx2s_g)), (x2s_r, .inl (γ.2.1 1, 5, .inr (.inl fx2s_r))), (x2s_k, .inl (γ.2.1 0, 40, .inl fx2s_k)), (x2s_b, .inl (γ.2.1 0, 8, .inl fx2s_b)), (x2y, .inl (γ.2.1 0, 40, .inl fx2y)), (x2q, .inl (γ.2.1 0, 8, .inl fx2q)), (x3, .inl (γ.2.1 4, 4, .inr (.inr (.inr (.inr fm))))), (ma, .inr (3, [.ref mas, .ref may, .ref maq, .int 0, .int 0, .int 0])), (mb, .inr (3, [.ref mbs, .ref mby, .ref mbq, .int 0, .int 0, .int 0])), (mc, .inr (3, [.ref mcs, .ref mcy, .ref mcq, .int 0, .int 0, .int 0])), (md, .inr (3, [.ref mds, .ref mdy, .ref mdq, .int 0, .int 0, .int 0])), (x8, .inr (5, [.ref x0, .ref x8n, .ref x10, .int 0, .int 0])), (x0, .inr (8, [.ref x0g, .int 0, .int 0, .int 0, .int 0, .int 0, .long 0, .ref γ.2.2.2])), (x10, .inr (0, [.ref x100, .ref x101, .ref x102, .ref x103, .ref x104, .ref x105, .ref x106, .ref x107, .int 0, .int 0, .int 10, .int 10, .int 3, .int 0, .int 0, .int 0, .int 0, .int 0, .int 0]))] s H locs := hw
  refine lv_aload_n hx hb dX11_abbey_29 rfl (lv_at hl 2 rfl) ?_
  refine lv_aload_n hx hb dX11_abbey_30 rfl (lv_at hl 0 rfl) ?_
  refine fs_RX11_69 hC hw 0 rfl rfl rfl (Nat.le_of_ble_eq_true rfl) dX11_abbey_31 (fun H locs hw => ?_)
  have hw : kW γ A [(x, .inr (10, [.ref x0, .ref x1, .ref x2, .ref x3, .ref x4, .ref x5, .ref x6, .ref x7, .ref x8, .ref x10, .ref x9])), (x9, .inr (0, [.ref x90, .ref x91, .ref x92, .ref x93, .ref x94, .ref x95, .ref x96, .ref x97, .int 0, .int 0, .int 10, .int 10, .int 3, .int 0, .int 0, .int 0, .int 0, .int 0, .int 0])), (x1, .inr (9, [.ref ua, .int 0, .int 0])), (x2, .inr (3, [.ref x2s, .ref x2y, .ref x2q, .int 0, .int 0, .int 0])), (x2s, .inr (7, [.ref x2s_l, .ref x2s_c, .ref x2s_g, .ref x2s_r, .ref x2s_k, .ref x2s_b, .int 0, .int 0, .int 0])), (x2s_l, .inl (γ.2.1 0, 5, .inl fx2s_l)), (x2s_c, .inl (γ.2.1 0, 5, .inl fx2s_c)), (x2s_g, .inl (γ.2.1 0, 5, .inl fx2s_g)), (x2s_r, .inl (γ.2.1 1, 5, .inr (.inl fx2s_r))), (x2s_k, .inl (γ.2.1 0, 40, .inl fx2s_k)), (x2s_b, .inl (γ.2.1 0, 8, .inl fx2s_b)), (x2y, .inl (γ.2.1 0, 40, .inl fx2y)), (x2q, .inl (γ.2.1 0, 8, .inl fx2q)), (x3, .inl (γ.2.1 4, 4, .inr (.inr (.inr (.inr fm))))), (ma, .inr (3, [.ref mas, .ref may, .ref maq, .int 0, .int 0, .int 0])), (mb, .inr (3, [.ref mbs, .ref mby, .ref mbq, .int 0, .int 0, .int 0])), (mc, .inr (3, [.ref mcs, .ref mcy, .ref mcq, .int 0, .int 0, .int 0])), (md, .inr (3, [.ref mds, .ref mdy, .ref mdq, .int 0, .int 0, .int 0])), (x8, .inr (5, [.ref x0, .ref x8n, .ref x10, .int 0, .int 0])), (x0, .inr (8, [.ref x0g, .int 0, .int 0, .int 0, .int 0, .int 0, .long 0, .ref γ.2.2.2])), (x10, .inr (0, [.ref x100, .ref x101, .ref x102, .ref x103, .ref x104, .ref x105, .ref x106, .ref x107, .int 0, .int 0, .int 10, .int 10, .int 3, .int 0, .int 0, .int 0, .int 0, .int 0, .int 0]))] s H locs := hw
  refine lv_aload_n hx hb dX11_abbey_34 rfl (lv_at hl 2 rfl) ?_
  refine k_V (wr := [(x9, .inr (0, [.ref x90, .ref x91, .ref x92, .ref x93, .ref x94, .ref x95, .ref x96, .ref x97, .int 0, .int 0, .int 10, .int 10, .int 3, .int 0, .int 0, .int 0, .int 0, .int 0, .int 0])), (x8, .inr (5, [.ref x0, .ref x8n, .ref x10, .int 0, .int 0])), (x0, .inr (8, [.ref x0g, .int 0, .int 0, .int 0, .int 0, .int 0, .long 0, .ref γ.2.2.2])), (x10, .inr (0, [.ref x100, .ref x101, .ref x102, .ref x103, .ref x104, .ref x105, .ref x106, .ref x107, .int 0, .int 0, .int 10, .int 10, .int 3, .int 0, .int 0, .int 0, .int 0, .int 0, .int 0]))]) 0 gw_647 gw_649 gp_21 gw_1 gw_650 hd_X11_beginAnew hC hw (c_X11_beginAnew γ l x x0 x1 x2 x3 x4 x5 x6 x7 x8 x10 x9 ua x2s x2s_l x2s_c x2s_g x2s_r x2s_k x2s_b x2y x2q fx2s_l fx2s_c fx2s_g fx2s_r fx2s_k fx2s_b fx2y fx2q fm ma mas may maq mb mbs mby mbq mc mcs mcy mcq md mds mdy mdq hm0 hm1 hm2 hm3) ⟨by decide, by decide⟩ ⟨by decide, by decide⟩ hl.1 rfl 0 rfl rfl rfl (Nat.le_of_ble_eq_true rfl) [0, 2, 3, 4, 5, 6, 7, 8, 9, 10, 11, 12, 13, 14, 15, 16, 17] [1, 18, 19, 20] rfl rfl rfl rfl (by decide) dX11_abbey_35 (fun r w1 H locs hq hw => ?_)
  obtain ⟨rfl, rfl⟩ := hq
  have hw : kW γ A [(x9, .inr (0, [.ref x90, .ref x91, .ref x92, .ref x93, .ref x94, .ref x95, .ref x96, .ref x97, .int 0, .int 0, .int 10, .int 10, .int 3, .int 0, .int 0, .int 0, .int 0, .int 0, .int 0])), (x8, .inr (5, [.ref x0, .ref x8n, .ref x10, .int 0, .int 0])), (x0, .inr (8, [.ref x0g, .int 0, .int 0, .int 0, .int 0, .int 0, .long 0, .ref γ.2.2.2])), (x10, .inr (0, [.ref x100, .ref x101, .ref x102, .ref x103, .ref x104, .ref x105, .ref x106, .ref x107, .int 0, .int 0, .int 10, .int 10, .int 3, .int 0, .int 0, .int 0, .int 0, .int 0, .int 0]))] s H locs := hw
  refine W.eq (g2 := F0 m 38 ls []) rfl ?_
  refine lv_iload_n hx hb dX11_abbey_38 rfl (lv_at hl 1 rfl) ?_
  exact k_iret hC hr hlocks hw [] rfl rfl ⟨rfl, rfl⟩ (by decide) (by decide) dX11_abbey_39

set_option maxHeartbeats 4000000 in
set_option maxRecDepth 100000 in
theorem c_X11_years (γ : kΓ) (l : Launch) (x : Nat) (x0 : Nat) (x1 : Nat) (x2 : Nat) (x3 : Nat) (x4 : Nat) (x5 : Nat) (x6 : Nat) (x7 : Nat) (x8 : Nat) (x9 : Nat) (x10 : Nat) (x0g : Nat) (x8n : Nat) (fn : Nat → Int32) (x2s : Nat) (x2y : Nat) (x2q : Nat) (fy : Nat → Int32) : kM γ l yX11_years cX11_years 1 ((some .int)) ({ frames := 4, cells := 0, slots := 0, locals := 103 } : Room) [.ref x] [(x, .inr (10, [.ref x0, .ref x1, .ref x2, .ref x3, .ref x4, .ref x5, .ref x6, .ref x7, .ref x8, .ref x9, .ref x10])), (x0, .inr (8, [.ref x0g, .int 0, .int 0, .int 0, .int 0, .int 0, .long 0, .ref γ.2.2.2])), (x8, .inr (5, [.ref x0, .ref x8n, .ref x9, .int 0, .int 0])), (x8n, .inl (γ.2.1 0, 40, .inl fn)), (x2, .inr (3, [.ref x2s, .ref x2y, .ref x2q, .int 0, .int 0, .int 0])), (x2y, .inl (γ.2.1 0, 40, .inl fy))] (fun r w1 => r = some (.int 0) ∧ w1 = []) := by
  refine k_ofW (by decide) (Nat.le_of_ble_eq_true rfl) ?_
  intro p e s m below meth c A ls hC hr hlocks hname hw hl
  have hx := hC.1
  have hb := hC.2.1
  have hl : lv_has ls 1 [(0, .ref x)] := hl
  refine lv_aload_n hx hb dX11_years_0 rfl (lv_at hl 0 rfl) ?_
  refine fg_RX11_77 hC hw 0 rfl rfl dX11_years_1 ?_
  refine lv_aload_n hx hb dX11_years_4 rfl (lv_at hl 0 rfl) ?_
  refine fg_RX11_65 hC hw 0 rfl rfl dX11_years_5 ?_
  refine lv_aload_n hx hb dX11_years_8 rfl (lv_at hl 0 rfl) ?_
  refine fg_RX11_26 hC hw 0 rfl rfl dX11_years_9 ?_
  refine k_V (wr := [(x, .inr (10, [.ref x0, .ref x1, .ref x2, .ref x3, .ref x4, .ref x5, .ref x6, .ref x7, .ref x8, .ref x9, .ref x10]))]) 2 gw_664 gw_665 gw_666 gw_14 gw_667 hd_X5_readYears hC hw (c_X5_readYears γ l x8 x8n x0 x0g x9 x9 fn 0 0 x2 x2s x2y x2q fy 0 0 0) ⟨by decide, by decide⟩ ⟨by decide, by decide⟩ hl.1 rfl 2 rfl rfl rfl (Nat.le_of_ble_eq_true rfl) [2, 3, 1, 4, 5] [0] rfl rfl rfl rfl (by decide) dX11_years_12 (fun r w1 H locs hq hw => ?_)
  obtain ⟨rfl, rfl⟩ := hq
  have hw : kW γ A [(x, .inr (10, [.ref x0, .ref x1, .ref x2, .ref x3, .ref x4, .ref x5, .ref x6, .ref x7, .ref x8, .ref x9, .ref x10]))] s H locs := hw
  refine W.eq (g2 := F0 m 15 ls [.int 0]) rfl ?_
  exact k_iret hC hr hlocks hw [] rfl rfl ⟨rfl, rfl⟩ (by decide) (by decide) dX11_years_15


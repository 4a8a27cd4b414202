theorem dX5_readPart_0 : decode cX5_readPart 0 = .ok (.aload_n 0, 1) := by decide +kernel
theorem dX5_readPart_1 : decode cX5_readPart 1 = .ok (.getfield 15, 3) := by decide +kernel
theorem dX5_readPart_4 : decode cX5_readPart 4 = .ok (.getfield 116, 3) := by decide +kernel
theorem dX5_readPart_7 : decode cX5_readPart 7 = .ok (.iconst 2, 1) := by decide +kernel
theorem dX5_readPart_8 : decode cX5_readPart 8 = .ok (.if_icmp .ne 7, 3) := by decide +kernel
theorem dX5_readPart_11 : decode cX5_readPart 11 = .ok (.iconst 1, 1) := by decide +kernel
theorem dX5_readPart_12 : decode cX5_readPart 12 = .ok (.goto 4, 3) := by decide +kernel
theorem dX5_readPart_15 : decode cX5_readPart 15 = .ok (.iconst 0, 1) := by decide +kernel
theorem dX5_readPart_16 : decode cX5_readPart 16 = .ok (.istore_n 2, 1) := by decide +kernel
theorem dX5_readPart_17 : decode cX5_readPart 17 = .ok (.aload_n 0, 1) := by decide +kernel
theorem dX5_readPart_18 : decode cX5_readPart 18 = .ok (.getfield 15, 3) := by decide +kernel
theorem dX5_readPart_21 : decode cX5_readPart 21 = .ok (.getfield 36, 3) := by decide +kernel
theorem dX5_readPart_24 : decode cX5_readPart 24 = .ok (.invokevirtual 232, 3) := by decide +kernel
theorem dX5_readPart_27 : decode cX5_readPart 27 = .ok (.istore_n 3, 1) := by decide +kernel
theorem dX5_readPart_28 : decode cX5_readPart 28 = .ok (.aload_n 0, 1) := by decide +kernel
theorem dX5_readPart_29 : decode cX5_readPart 29 = .ok (.getfield 15, 3) := by decide +kernel
theorem dX5_readPart_32 : decode cX5_readPart 32 = .ok (.getfield 36, 3) := by decide +kernel
theorem dX5_readPart_35 : decode cX5_readPart 35 = .ok (.getstatic 235, 3) := by decide +kernel
theorem dX5_readPart_38 : decode cX5_readPart 38 = .ok (.if_acmp .ne 7, 3) := by decide +kernel
theorem dX5_readPart_41 : decode cX5_readPart 41 = .ok (.iconst 1, 1) := by decide +kernel
theorem dX5_readPart_42 : decode cX5_readPart 42 = .ok (.goto 4, 3) := by decide +kernel
theorem dX5_readPart_45 : decode cX5_readPart 45 = .ok (.iconst 0, 1) := by decide +kernel
theorem dX5_readPart_46 : decode cX5_readPart 46 = .ok (.istore 4, 2) := by decide +kernel
theorem dX5_readPart_48 : decode cX5_readPart 48 = .ok (.iload_n 2, 1) := by decide +kernel
theorem dX5_readPart_49 : decode cX5_readPart 49 = .ok (.ifCond .ne 32, 3) := by decide +kernel
theorem dX5_readPart_52 : decode cX5_readPart 52 = .ok (.iload_n 3, 1) := by decide +kernel
theorem dX5_readPart_53 : decode cX5_readPart 53 = .ok (.ifCond .ne 28, 3) := by decide +kernel
theorem dX5_readPart_56 : decode cX5_readPart 56 = .ok (.iload 4, 2) := by decide +kernel
theorem dX5_readPart_58 : decode cX5_readPart 58 = .ok (.ifCond .ne 23, 3) := by decide +kernel
theorem dX5_readPart_61 : decode cX5_readPart 61 = .ok (.aload_n 0, 1) := by decide +kernel
theorem dX5_readPart_62 : decode cX5_readPart 62 = .ok (.getfield 15, 3) := by decide +kernel
theorem dX5_readPart_65 : decode cX5_readPart 65 = .ok (.getfield 116, 3) := by decide +kernel
theorem dX5_readPart_68 : decode cX5_readPart 68 = .ok (.bipush 40, 2) := by decide +kernel
theorem dX5_readPart_70 : decode cX5_readPart 70 = .ok (.if_icmp .eq 11, 3) := by decide +kernel
theorem dX5_readPart_73 : decode cX5_readPart 73 = .ok (.aload_n 0, 1) := by decide +kernel
theorem dX5_readPart_74 : decode cX5_readPart 74 = .ok (.iconst 1, 1) := by decide +kernel
theorem dX5_readPart_75 : decode cX5_readPart 75 = .ok (.invokevirtual 84, 3) := by decide +kernel
theorem dX5_readPart_78 : decode cX5_readPart 78 = .ok (.goto 117, 3) := by decide +kernel
theorem dX5_readPart_81 : decode cX5_readPart 81 = .ok (.iload_n 1, 1) := by decide +kernel
theorem dX5_readPart_82 : decode cX5_readPart 82 = .ok (.iconst 5, 1) := by decide +kernel
theorem dX5_readPart_83 : decode cX5_readPart 83 = .ok (.if_icmp .lt 11, 3) := by decide +kernel
theorem dX5_readPart_86 : decode cX5_readPart 86 = .ok (.aload_n 0, 1) := by decide +kernel
theorem dX5_readPart_87 : decode cX5_readPart 87 = .ok (.iconst 5, 1) := by decide +kernel
theorem dX5_readPart_88 : decode cX5_readPart 88 = .ok (.invokevirtual 84, 3) := by decide +kernel
theorem dX5_readPart_91 : decode cX5_readPart 91 = .ok (.goto 104, 3) := by decide +kernel
theorem dX5_readPart_94 : decode cX5_readPart 94 = .ok (.iload_n 2, 1) := by decide +kernel
theorem dX5_readPart_95 : decode cX5_readPart 95 = .ok (.ifCond .ne 7, 3) := by decide +kernel
theorem dX5_readPart_98 : decode cX5_readPart 98 = .ok (.iload_n 3, 1) := by decide +kernel
theorem dX5_readPart_99 : decode cX5_readPart 99 = .ok (.ifCond .eq 44, 3) := by decide +kernel
theorem dX5_readPart_102 : decode cX5_readPart 102 = .ok (.aload_n 0, 1) := by decide +kernel
theorem dX5_readPart_103 : decode cX5_readPart 103 = .ok (.getfield 19, 3) := by decide +kernel
theorem dX5_readPart_106 : decode cX5_readPart 106 = .ok (.iload_n 2, 1) := by decide +kernel
theorem dX5_readPart_107 : decode cX5_readPart 107 = .ok (.ifCond .eq 13, 3) := by decide +kernel
theorem dX5_readPart_110 : decode cX5_readPart 110 = .ok (.aload_n 0, 1) := by decide +kernel
theorem dX5_readPart_111 : decode cX5_readPart 111 = .ok (.getfield 15, 3) := by decide +kernel
theorem dX5_readPart_114 : decode cX5_readPart 114 = .ok (.getfield 238, 3) := by decide +kernel
theorem dX5_readPart_117 : decode cX5_readPart 117 = .ok (.goto 13, 3) := by decide +kernel
theorem dX5_readPart_120 : decode cX5_readPart 120 = .ok (.aload_n 0, 1) := by decide +kernel
theorem dX5_readPart_121 : decode cX5_readPart 121 = .ok (.getfield 15, 3) := by decide +kernel
theorem dX5_readPart_124 : decode cX5_readPart 124 = .ok (.getfield 36, 3) := by decide +kernel
theorem dX5_readPart_127 : decode cX5_readPart 127 = .ok (.getfield 173, 3) := by decide +kernel
theorem dX5_readPart_130 : decode cX5_readPart 130 = .ok (.invokevirtual 223, 3) := by decide +kernel
theorem dX5_readPart_133 : decode cX5_readPart 133 = .ok (.aload_n 0, 1) := by decide +kernel
theorem dX5_readPart_134 : decode cX5_readPart 134 = .ok (.getfield 15, 3) := by decide +kernel
theorem dX5_readPart_137 : decode cX5_readPart 137 = .ok (.invokevirtual 125, 3) := by decide +kernel
theorem dX5_readPart_140 : decode cX5_readPart 140 = .ok (.goto 55, 3) := by decide +kernel
theorem dX5_readPart_143 : decode cX5_readPart 143 = .ok (.iload 4, 2) := by decide +kernel
theorem dX5_readPart_145 : decode cX5_readPart 145 = .ok (.ifCond .eq 29, 3) := by decide +kernel
theorem dX5_readPart_148 : decode cX5_readPart 148 = .ok (.aload_n 0, 1) := by decide +kernel
theorem dX5_readPart_149 : decode cX5_readPart 149 = .ok (.getfield 15, 3) := by decide +kernel
theorem dX5_readPart_152 : decode cX5_readPart 152 = .ok (.invokevirtual 125, 3) := by decide +kernel
theorem dX5_readPart_155 : decode cX5_readPart 155 = .ok (.aload_n 0, 1) := by decide +kernel
theorem dX5_readPart_156 : decode cX5_readPart 156 = .ok (.iload_n 1, 1) := by decide +kernel
theorem dX5_readPart_157 : decode cX5_readPart 157 = .ok (.iconst 1, 1) := by decide +kernel
theorem dX5_readPart_158 : decode cX5_readPart 158 = .ok (.iadd, 1) := by decide +kernel
theorem dX5_readPart_159 : decode cX5_readPart 159 = .ok (.invokevirtual 213, 3) := by decide +kernel
theorem dX5_readPart_162 : decode cX5_readPart 162 = .ok (.aload_n 0, 1) := by decide +kernel
theorem dX5_readPart_163 : decode cX5_readPart 163 = .ok (.getfield 19, 3) := by decide +kernel
theorem dX5_readPart_166 : decode cX5_readPart 166 = .ok (.bipush (-5), 2) := by decide +kernel
theorem dX5_readPart_168 : decode cX5_readPart 168 = .ok (.invokevirtual 223, 3) := by decide +kernel
theorem dX5_readPart_171 : decode cX5_readPart 171 = .ok (.goto 24, 3) := by decide +kernel
theorem dX5_readPart_174 : decode cX5_readPart 174 = .ok (.aload_n 0, 1) := by decide +kernel
theorem dX5_readPart_175 : decode cX5_readPart 175 = .ok (.getfield 15, 3) := by decide +kernel
theorem dX5_readPart_178 : decode cX5_readPart 178 = .ok (.invokevirtual 125, 3) := by decide +kernel
theorem dX5_readPart_181 : decode cX5_readPart 181 = .ok (.aload_n 0, 1) := by decide +kernel
theorem dX5_readPart_182 : decode cX5_readPart 182 = .ok (.iconst 0, 1) := by decide +kernel
theorem dX5_readPart_183 : decode cX5_readPart 183 = .ok (.iload_n 1, 1) := by decide +kernel
theorem dX5_readPart_184 : decode cX5_readPart 184 = .ok (.iconst 1, 1) := by decide +kernel
theorem dX5_readPart_185 : decode cX5_readPart 185 = .ok (.iadd, 1) := by decide +kernel
theorem dX5_readPart_186 : decode cX5_readPart 186 = .ok (.invokevirtual 195, 3) := by decide +kernel
theorem dX5_readPart_189 : decode cX5_readPart 189 = .ok (.aload_n 0, 1) := by decide +kernel
theorem dX5_readPart_190 : decode cX5_readPart 190 = .ok (.bipush 41, 2) := by decide +kernel
theorem dX5_readPart_192 : decode cX5_readPart 192 = .ok (.invokevirtual 145, 3) := by decide +kernel
theorem dX5_readPart_195 : decode cX5_readPart 195 = .ok (.return_, 1) := by decide +kernel
theorem dX5_readLevel_0 : decode cX5_readLevel 0 = .ok (.aload_n 0, 1) := by decide +kernel
theorem dX5_readLevel_1 : decode cX5_readLevel 1 = .ok (.getfield 91, 3) := by decide +kernel
theorem dX5_readLevel_4 : decode cX5_readLevel 4 = .ok (.ifCond .eq 4, 3) := by decide +kernel
theorem dX5_readLevel_7 : decode cX5_readLevel 7 = .ok (.return_, 1) := by decide +kernel
theorem dX5_readLevel_8 : decode cX5_readLevel 8 = .ok (.iload_n 1, 1) := by decide +kernel
theorem dX5_readLevel_9 : decode cX5_readLevel 9 = .ok (.iconst 4, 1) := by decide +kernel
theorem dX5_readLevel_10 : decode cX5_readLevel 10 = .ok (.if_icmp .lt 9, 3) := by decide +kernel
theorem dX5_readLevel_13 : decode cX5_readLevel 13 = .ok (.aload_n 0, 1) := by decide +kernel
theorem dX5_readLevel_14 : decode cX5_readLevel 14 = .ok (.iload_n 2, 1) := by decide +kernel
theorem dX5_readLevel_15 : decode cX5_readLevel 15 = .ok (.invokevirtual 213, 3) := by decide +kernel
theorem dX5_readLevel_18 : decode cX5_readLevel 18 = .ok (.return_, 1) := by decide +kernel
theorem dX5_readLevel_19 : decode cX5_readLevel 19 = .ok (.aload_n 0, 1) := by decide +kernel
theorem dX5_readLevel_20 : decode cX5_readLevel 20 = .ok (.iload_n 1, 1) := by decide +kernel
theorem dX5_readLevel_21 : decode cX5_readLevel 21 = .ok (.iconst 1, 1) := by decide +kernel
theorem dX5_readLevel_22 : decode cX5_readLevel 22 = .ok (.iadd, 1) := by decide +kernel
theorem dX5_readLevel_23 : decode cX5_readLevel 23 = .ok (.iload_n 2, 1) := by decide +kernel
theorem dX5_readLevel_24 : decode cX5_readLevel 24 = .ok (.invokevirtual 195, 3) := by decide +kernel
theorem dX5_readLevel_27 : decode cX5_readLevel 27 = .ok (.iconst 0, 1) := by decide +kernel
theorem dX5_readLevel_28 : decode cX5_readLevel 28 = .ok (.istore_n 3, 1) := by decide +kernel
theorem dX5_readLevel_29 : decode cX5_readLevel 29 = .ok (.iload_n 3, 1) := by decide +kernel
theorem dX5_readLevel_30 : decode cX5_readLevel 30 = .ok (.sipush 1000, 3) := by decide +kernel
theorem dX5_readLevel_33 : decode cX5_readLevel 33 = .ok (.if_icmp .ge 62, 3) := by decide +kernel
theorem dX5_readLevel_36 : decode cX5_readLevel 36 = .ok (.aload_n 0, 1) := by decide +kernel
theorem dX5_readLevel_37 : decode cX5_readLevel 37 = .ok (.getfield 91, 3) := by decide +kernel
theorem dX5_readLevel_40 : decode cX5_readLevel 40 = .ok (.ifCond .ne 55, 3) := by decide +kernel
theorem dX5_readLevel_43 : decode cX5_readLevel 43 = .ok (.aload_n 0, 1) := by decide +kernel
theorem dX5_readLevel_44 : decode cX5_readLevel 44 = .ok (.invokevirtual 216, 3) := by decide +kernel
theorem dX5_readLevel_47 : decode cX5_readLevel 47 = .ok (.istore 4, 2) := by decide +kernel
theorem dX5_readLevel_49 : decode cX5_readLevel 49 = .ok (.iload 4, 2) := by decide +kernel
theorem dX5_readLevel_51 : decode cX5_readLevel 51 = .ok (.invokestatic 219, 3) := by decide +kernel
theorem dX5_readLevel_54 : decode cX5_readLevel 54 = .ok (.iload_n 1, 1) := by decide +kernel
theorem dX5_readLevel_55 : decode cX5_readLevel 55 = .ok (.if_icmp .eq 4, 3) := by decide +kernel
theorem dX5_readLevel_58 : decode cX5_readLevel 58 = .ok (.return_, 1) := by decide +kernel
theorem dX5_readLevel_59 : decode cX5_readLevel 59 = .ok (.aload_n 0, 1) := by decide +kernel
theorem dX5_readLevel_60 : decode cX5_readLevel 60 = .ok (.getfield 15, 3) := by decide +kernel
theorem dX5_readLevel_63 : decode cX5_readLevel 63 = .ok (.invokevirtual 125, 3) := by decide +kernel
theorem dX5_readLevel_66 : decode cX5_readLevel 66 = .ok (.aload_n 0, 1) := by decide +kernel
theorem dX5_readLevel_67 : decode cX5_readLevel 67 = .ok (.iload_n 1, 1) := by decide +kernel
theorem dX5_readLevel_68 : decode cX5_readLevel 68 = .ok (.iconst 1, 1) := by decide +kernel
theorem dX5_readLevel_69 : decode cX5_readLevel 69 = .ok (.iadd, 1) := by decide +kernel
theorem dX5_readLevel_70 : decode cX5_readLevel 70 = .ok (.iload_n 2, 1) := by decide +kernel
theorem dX5_readLevel_71 : decode cX5_readLevel 71 = .ok (.invokevirtual 195, 3) := by decide +kernel
theorem dX5_readLevel_74 : decode cX5_readLevel 74 = .ok (.aload_n 0, 1) := by decide +kernel
theorem dX5_readLevel_75 : decode cX5_readLevel 75 = .ok (.getfield 19, 3) := by decide +kernel
theorem dX5_readLevel_78 : decode cX5_readLevel 78 = .ok (.iload 4, 2) := by decide +kernel
theorem dX5_readLevel_80 : decode cX5_readLevel 80 = .ok (.invokevirtual 223, 3) := by decide +kernel
theorem dX5_readLevel_83 : decode cX5_readLevel 83 = .ok (.iload_n 1, 1) := by decide +kernel
theorem dX5_readLevel_84 : decode cX5_readLevel 84 = .ok (.iconst 1, 1) := by decide +kernel
theorem dX5_readLevel_85 : decode cX5_readLevel 85 = .ok (.if_icmp .ne 4, 3) := by decide +kernel
theorem dX5_readLevel_88 : decode cX5_readLevel 88 = .ok (.return_, 1) := by decide +kernel
theorem dX5_readLevel_89 : decode cX5_readLevel 89 = .ok (.iinc 3 1, 3) := by decide +kernel
theorem dX5_readLevel_92 : decode cX5_readLevel 92 = .ok (.goto (-63), 3) := by decide +kernel
theorem dX5_readLevel_95 : decode cX5_readLevel 95 = .ok (.return_, 1) := by decide +kernel
theorem ok_addCode {a : aAS} {k : Int32} (hA : aOK a) : aOK (F_addCode a k) := by
  have hE9 : (a.2.2.2.2.2.2.2.2.2.2.2.2.2.1) ≤ 1000 := hA.2.2
  unfold F_addCode
  split
  · exact hA
  · rename_i h
    exact ⟨hA.1, hA.2.1, (lt_c (T := (a.2.2.2.2.2.2.2.2.2.2.2.2.2.1)) (k := 1000) (by decide) (by omega) h : (a.2.2.2.2.2.2.2.2.2.2.2.2.2.1) < 1000)⟩
theorem ok_passOnce {f : Nat → Int32} {n : Nat} {rs : rRS} {a : aAS} {w : Nat} (_ : n ≤ 1000) (hA : aOK a) : aOK (F_passOnce f n rs a w).2 := by
  unfold F_passOnce
  split
  · exact hA
  · exact hA

def F_part5 (f : Nat → Int32) (n : Nat) (rs : rRS) (a : aAS) : rRS × aAS :=
  if (tk f n (rs.2.1)) = 2 then (if (tw f n (rs.2.1)) = 19 then ((F_fail f n rs 5), a) else ((F_fail f n rs 5), a)) else (if (tw f n (rs.2.1)) = 19 then (if (F_isFact (tw f n (rs.2.1))) = 0 then ((F_fail f n rs 5), a) else ((F_fail f n rs 5), a)) else (if (F_isFact (tw f n (rs.2.1))) = 0 then (if (tk f n (rs.2.1)) = 40 then ((F_fail f n rs 5), a) else ((F_fail f n rs 1), a)) else ((F_fail f n rs 5), a)))
set_option maxHeartbeats 4000000 in
set_option maxRecDepth 100000 in
theorem c_part5 (γ : kΓ) (l : Launch) (rr : Nat) (rl : Nat) (ab : Nat) (mn : Int32) (h : Nat) (hg : Nat) (n : Nat) (rs : rRS) (f : Nat → Int32) (a0 : Nat) (a1 : Nat) (a2 : Nat) (a3 : Nat) (a4 : Nat) (a5 : Nat) (a6 : Nat) (a7 : Nat) (a : aAS) (hn : n ≤ 1000) (hok : ∀ k, k < n → kok (f k) = true) (hA : aOK a) : kM γ l yX5_readPart cX5_readPart 5 none ({ frames := 3, cells := 0, slots := 0, locals := 80 } : Room) [.ref rr, .int 5] ([(rr, .inr (5, [.ref h, .ref rl, .ref ab, .int mn, .int (rs.1)]))] ++ (tWd γ h hg n f (rs.2.1) (rs.2.2.1) (rs.2.2.2)) ++ (aWd γ ab a0 a1 a2 a3 a4 a5 a6 a7 a)) (fun r w1 => r = none ∧ w1 = ([(rr, .inr (5, [.ref h, .ref rl, .ref ab, .int mn, .int (((F_part5 f n rs a).1).1)]))] ++ (tWd γ h hg n f (((F_part5 f n rs a).1).2.1) (((F_part5 f n rs a).1).2.2.1) (((F_part5 f n rs a).1).2.2.2)) ++ (aWd γ ab a0 a1 a2 a3 a4 a5 a6 a7 ((F_part5 f n rs a).2)))) := by
  refine k_ofW (by decide) (Nat.le_of_ble_eq_true rfl) ?_
  intro p9 e s m below meth c A ls hC hr hlocks hname hw hl
  have hx := hC.1
  have hb := hC.2.1
  have hl : lv_has ls 5 [(0, .ref rr), (1, .int 5)] := hl
  have hT : (a.2.2.2.2.2.2.2.1) ≤ 8 := hA.1
  have hQ : (a.2.2.2.2.2.2.2.2.1) ≤ 5 := hA.2.1
  have hE9 : (a.2.2.2.2.2.2.2.2.2.2.2.2.2.1) ≤ 1000 := hA.2.2
  refine lv_aload_n hx hb dX5_readPart_0 rfl (lv_at hl 0 rfl) ?_
  refine fg_RX5_15 hC hw 0 rfl rfl dX5_readPart_1 ?_
  refine fg_RX5_116 hC hw 1 rfl rfl dX5_readPart_4 ?_
  refine lv_iconst (v := 2) hx hb dX5_readPart_7 (by decide) ?_
  refine lv_icmp_ne (tgt := 15) hx hb dX5_readPart_8 (by decide) (fun c_169 => ?_) (fun c_169 => ?_)
  · refine lv_iconst (v := 0) hx hb dX5_readPart_15 (by decide) ?_
    refine lv_istore_n (lv' := [(2, .int 0), (0, .ref rr), (1, .int 5)]) hx hb dX5_readPart_16 rfl hl (by decide) rfl (fun ls hl => ?_)
    refine lv_aload_n hx hb dX5_readPart_17 rfl (lv_at hl 1 rfl) ?_
    refine fg_RX5_15 hC hw 0 rfl rfl dX5_readPart_18 ?_
    refine fg_RX5_36 hC hw 1 rfl rfl dX5_readPart_21 ?_
    refine k_VO (wr := ([(rr, .inr (5, [.ref h, .ref rl, .ref ab, .int mn, .int (rs.1)]))] ++ (tWd γ h hg n f (rs.2.1) (rs.2.2.1) (rs.2.2.2)) ++ (aWd γ ab a0 a1 a2 a3 a4 a5 a6 a7 a))) 0 gw_614 gw_615 gw_616 gw_4 gw_617 hd_X10_isFact hC hw (c_isFact γ l (tw f n (rs.2.1)) tw_lt) ⟨show 0 + 1 ≤ 3 by omega, show 8 + (1 + 11) + 0 ≤ 80 by omega⟩ ⟨Nat.le_refl _, Nat.le_refl _⟩ hl.1 rfl rfl (tw_lt) rfl (Nat.le_of_ble_eq_true rfl) [] [0, 1, 2, 3, 4, 5, 6, 7, 8, 9, 10] rfl rfl rfl rfl (by decide) dX5_readPart_24 (fun r w1 H locs hq hw => ?_)
    obtain ⟨rfl, rfl⟩ := hq
    have hw : kW γ A ([(rr, .inr (5, [.ref h, .ref rl, .ref ab, .int mn, .int (rs.1)]))] ++ (tWd γ h hg n f (rs.2.1) (rs.2.2.1) (rs.2.2.2)) ++ (aWd γ ab a0 a1 a2 a3 a4 a5 a6 a7 a)) s H locs := hw
    refine W.eq (g2 := F0 m 27 ls [.int (F_isFact (tw f n (rs.2.1)))]) rfl ?_
    refine lv_istore_n (lv' := [(3, .int (F_isFact (tw f n (rs.2.1)))), (2, .int 0), (0, .ref rr), (1, .int 5)]) hx hb dX5_readPart_27 rfl hl (by decide) rfl (fun ls hl => ?_)
    refine lv_aload_n hx hb dX5_readPart_28 rfl (lv_at hl 2 rfl) ?_
    refine fg_RX5_15 hC hw 0 rfl rfl dX5_readPart_29 ?_
    refine fg_RX5_36 hC hw 1 rfl rfl dX5_readPart_32 ?_
    refine k_word hC hw (n := 19) (by decide) gw_626 dX5_readPart_35 ?_
    refine lv_acmp_ne (rx := some (γ.2.2.2.2 (tw f n (rs.2.1)))) (ry := some (γ.2.2.2.2 19)) (tgt := 45) hx hb dX5_readPart_38 (by decide) (fun c_170 => ?_) (fun c_170 => ?_)
    · have c_170 : ¬ (tw f n (rs.2.1)) = 19 := fun h9 => c_170 ((k_weq hC (tw_lt) (by decide)).mpr h9)
      refine lv_iconst (v := 0) hx hb dX5_readPart_45 (by decide) ?_
      refine lv_istore (lv' := [(4, .int 0), (3, .int (F_isFact (tw f n (rs.2.1)))), (2, .int 0), (0, .ref rr), (1, .int 5)]) hx hb dX5_readPart_46 hl (by decide) rfl (fun ls hl => ?_)
      refine lv_iload_n hx hb dX5_readPart_48 rfl (lv_at hl 2 rfl) ?_
      refine lv_if_ne (tgt := 81) hx hb dX5_readPart_49 (by decide) (fun h => absurd rfl h) (fun _ => ?_)
      refine lv_iload_n hx hb dX5_readPart_52 rfl (lv_at hl 1 rfl) ?_
      refine lv_if_ne (tgt := 81) hx hb dX5_readPart_53 (by decide) (fun c_171 => ?_) (fun c_171 => ?_)
      · refine lv_iload_n hx hb dX5_readPart_81 rfl (lv_at hl 4 rfl) ?_
        refine lv_iconst (v := 5) hx hb dX5_readPart_82 (by decide) ?_
        refine lv_icmp_lt (tgt := 94) hx hb dX5_readPart_83 (by decide) (fun h => absurd h (by decide)) (fun _ => ?_)
        refine lv_aload_n hx hb dX5_readPart_86 rfl (lv_at hl 3 rfl) ?_
        refine lv_iconst (v := 5) hx hb dX5_readPart_87 (by decide) ?_
        refine k_V (wr := (aWd γ ab a0 a1 a2 a3 a4 a5 a6 a7 a)) 1 gw_493 gw_495 gp_5 gw_14 gw_496 hd_X5_fail hC hw (c_fail γ l rr rl ab mn h hg n rs f 5 hn hok) ⟨show 0 + 1 ≤ 3 by omega, show 8 + (2 + 11) + 0 ≤ 80 by omega⟩ ⟨Nat.le_refl _, Nat.le_refl _⟩ hl.1 rfl 0 rfl rfl rfl (Nat.le_of_ble_eq_true rfl) [0, 1, 2] [3, 4, 5, 6, 7, 8, 9, 10] rfl rfl rfl rfl (by decide) dX5_readPart_88 (fun r w1 H locs hq hw => ?_)
        obtain ⟨rfl, rfl⟩ := hq
        have hw : kW γ A ((aWd γ ab a0 a1 a2 a3 a4 a5 a6 a7 a) ++ [(rr, .inr (5, [.ref h, .ref rl, .ref ab, .int mn, .int ((F_fail f n rs 5).1)]))] ++ (tWd γ h hg n f ((F_fail f n rs 5).2.1) ((F_fail f n rs 5).2.2.1) ((F_fail f n rs 5).2.2.2))) s H locs := hw
        refine W.eq (g2 := F0 m 91 ls []) rfl ?_
        refine lv_goto (tgt := 195) hx hb dX5_readPart_91 (by decide) ?_
        have hE : (F_part5 f n rs a) = ((F_fail f n rs 5), a) := by unfold F_part5; rw [if_neg c_169, if_neg c_170, if_neg c_171]
        have hw : kW γ A ((aWd γ ab a0 a1 a2 a3 a4 a5 a6 a7 ((F_part5 f n rs a).2)) ++ [(rr, .inr (5, [.ref h, .ref rl, .ref ab, .int mn, .int (((F_part5 f n rs a).1).1)]))] ++ (tWd γ h hg n f (((F_part5 f n rs a).1).2.1) (((F_part5 f n rs a).1).2.2.1) (((F_part5 f n rs a).1).2.2.2))) s H locs := by first | (rw [hE]; exact hw) | exact hw
        exact k_vret hC hr hlocks hw [8, 9, 10, 0, 1, 2, 3, 4, 5, 6, 7] rfl rfl ⟨rfl, rfl⟩ (Nat.le_refl _) (Nat.le_refl _) dX5_readPart_195
      · refine lv_iload hx hb dX5_readPart_56 (lv_at hl 0 rfl) ?_
        refine lv_if_ne (tgt := 81) hx hb dX5_readPart_58 (by decide) (fun h => absurd rfl h) (fun _ => ?_)
        refine lv_aload_n hx hb dX5_readPart_61 rfl (lv_at hl 3 rfl) ?_
        refine fg_RX5_15 hC hw 0 rfl rfl dX5_readPart_62 ?_
        refine fg_RX5_116 hC hw 1 rfl rfl dX5_readPart_65 ?_
        refine lv_bipush (v := 40) hx hb dX5_readPart_68 (by decide) ?_
        refine lv_icmp_eq (tgt := 81) hx hb dX5_readPart_70 (by decide) (fun c_172 => ?_) (fun c_172 => ?_)
        · refine lv_iload_n hx hb dX5_readPart_81 rfl (lv_at hl 4 rfl) ?_
          refine lv_iconst (v := 5) hx hb dX5_readPart_82 (by decide) ?_
          refine lv_icmp_lt (tgt := 94) hx hb dX5_readPart_83 (by decide) (fun h => absurd h (by decide)) (fun _ => ?_)
          refine lv_aload_n hx hb dX5_readPart_86 rfl (lv_at hl 3 rfl) ?_
          refine lv_iconst (v := 5) hx hb dX5_readPart_87 (by decide) ?_
          refine k_V (wr := (aWd γ ab a0 a1 a2 a3 a4 a5 a6 a7 a)) 1 gw_493 gw_495 gp_5 gw_14 gw_496 hd_X5_fail hC hw (c_fail γ l rr rl ab mn h hg n rs f 5 hn hok) ⟨show 0 + 1 ≤ 3 by omega, show 8 + (2 + 11) + 0 ≤ 80 by omega⟩ ⟨Nat.le_refl _, Nat.le_refl _⟩ hl.1 rfl 0 rfl rfl rfl (Nat.le_of_ble_eq_true rfl) [0, 1, 2] [3, 4, 5, 6, 7, 8, 9, 10] rfl rfl rfl rfl (by decide) dX5_readPart_88 (fun r w1 H locs hq hw => ?_)
          obtain ⟨rfl, rfl⟩ := hq
          have hw : kW γ A ((aWd γ ab a0 a1 a2 a3 a4 a5 a6 a7 a) ++ [(rr, .inr (5, [.ref h, .ref rl, .ref ab, .int mn, .int ((F_fail f n rs 5).1)]))] ++ (tWd γ h hg n f ((F_fail f n rs 5).2.1) ((F_fail f n rs 5).2.2.1) ((F_fail f n rs 5).2.2.2))) s H locs := hw
          refine W.eq (g2 := F0 m 91 ls []) rfl ?_
          refine lv_goto (tgt := 195) hx hb dX5_readPart_91 (by decide) ?_
          have hE : (F_part5 f n rs a) = ((F_fail f n rs 5), a) := by unfold F_part5; rw [if_neg c_169, if_neg c_170, if_pos c_171, if_pos c_172]
          have hw : kW γ A ((aWd γ ab a0 a1 a2 a3 a4 a5 a6 a7 ((F_part5 f n rs a).2)) ++ [(rr, .inr (5, [.ref h, .ref rl, .ref ab, .int mn, .int (((F_part5 f n rs a).1).1)]))] ++ (tWd γ h hg n f (((F_part5 f n rs a).1).2.1) (((F_part5 f n rs a).1).2.2.1) (((F_part5 f n rs a).1).2.2.2))) s H locs := by first | (rw [hE]; exact hw) | exact hw
          exact k_vret hC hr hlocks hw [8, 9, 10, 0, 1, 2, 3, 4, 5, 6, 7] rfl rfl ⟨rfl, rfl⟩ (Nat.le_refl _) (Nat.le_refl _) dX5_readPart_195
        · refine lv_aload_n hx hb dX5_readPart_73 rfl (lv_at hl 3 rfl) ?_
          refine lv_iconst (v := 1) hx hb dX5_readPart_74 (by decide) ?_
          refine k_V (wr := (aWd γ ab a0 a1 a2 a3 a4 a5 a6 a7 a)) 1 gw_493 gw_495 gp_5 gw_14 gw_496 hd_X5_fail hC hw (c_fail γ l rr rl ab mn h hg n rs f 1 hn hok) ⟨show 0 + 1 ≤ 3 by omega, show 8 + (2 + 11) + 0 ≤ 80 by omega⟩ ⟨Nat.le_refl _, Nat.le_refl _⟩ hl.1 rfl 0 rfl rfl rfl (Nat.le_of_ble_eq_true rfl) [0, 1, 2] [3, 4, 5, 6, 7, 8, 9, 10] rfl rfl rfl rfl (by decide) dX5_readPart_75 (fun r w1 H locs hq hw => ?_)
          obtain ⟨rfl, rfl⟩ := hq
          have hw : kW γ A ((aWd γ ab a0 a1 a2 a3 a4 a5 a6 a7 a) ++ [(rr, .inr (5, [.ref h, .ref rl, .ref ab, .int mn, .int ((F_fail f n rs 1).1)]))] ++ (tWd γ h hg n f ((F_fail f n rs 1).2.1) ((F_fail f n rs 1).2.2.1) ((F_fail f n rs 1).2.2.2))) s H locs := hw
          refine W.eq (g2 := F0 m 78 ls []) rfl ?_
          refine lv_goto (tgt := 195) hx hb dX5_readPart_78 (by decide) ?_
          have hE : (F_part5 f n rs a) = ((F_fail f n rs 1), a) := by unfold F_part5; rw [if_neg c_169, if_neg c_170, if_pos c_171, if_neg c_172]
          have hw : kW γ A ((aWd γ ab a0 a1 a2 a3 a4 a5 a6 a7 ((F_part5 f n rs a).2)) ++ [(rr, .inr (5, [.ref h, .ref rl, .ref ab, .int mn, .int (((F_part5 f n rs a).1).1)]))] ++ (tWd γ h hg n f (((F_part5 f n rs a).1).2.1) (((F_part5 f n rs a).1).2.2.1) (((F_part5 f n rs a).1).2.2.2))) s H locs := by first | (rw [hE]; exact hw) | exact hw
          exact k_vret hC hr hlocks hw [8, 9, 10, 0, 1, 2, 3, 4, 5, 6, 7] rfl rfl ⟨rfl, rfl⟩ (Nat.le_refl _) (Nat.le_refl _) dX5_readPart_195
    · have c_170 : (tw f n (rs.2.1)) = 19 := (k_weq hC (tw_lt) (by decide)).mp c_170
      refine lv_iconst (v := 1) hx hb dX5_readPart_41 (by decide) ?_
      refine lv_goto (tgt := 46) hx hb dX5_readPart_42 (by decide) ?_
      refine lv_istore (lv' := [(4, .int 1), (3, .int (F_isFact (tw f n (rs.2.1)))), (2, .int 0), (0, .ref rr), (1, .int 5)]) hx hb dX5_readPart_46 hl (by decide) rfl (fun ls hl => ?_)
      refine lv_iload_n hx hb dX5_readPart_48 rfl (lv_at hl 2 rfl) ?_
      refine lv_if_ne (tgt := 81) hx hb dX5_readPart_49 (by decide) (fun h => absurd rfl h) (fun _ => ?_)
      refine lv_iload_n hx hb dX5_readPart_52 rfl (lv_at hl 1 rfl) ?_
      refine lv_if_ne (tgt := 81) hx hb dX5_readPart_53 (by decide) (fun c_173 => ?_) (fun c_173 => ?_)
      · refine lv_iload_n hx hb dX5_readPart_81 rfl (lv_at hl 4 rfl) ?_
        refine lv_iconst (v := 5) hx hb dX5_readPart_82 (by decide) ?_
        refine lv_icmp_lt (tgt := 94) hx hb dX5_readPart_83 (by decide) (fun h => absurd h (by decide)) (fun _ => ?_)
        refine lv_aload_n hx hb dX5_readPart_86 rfl (lv_at hl 3 rfl) ?_
        refine lv_iconst (v := 5) hx hb dX5_readPart_87 (by decide) ?_
        refine k_V (wr := (aWd γ ab a0 a1 a2 a3 a4 a5 a6 a7 a)) 1 gw_493 gw_495 gp_5 gw_14 gw_496 hd_X5_fail hC hw (c_fail γ l rr rl ab mn h hg n rs f 5 hn hok) ⟨show 0 + 1 ≤ 3 by omega, show 8 + (2 + 11) + 0 ≤ 80 by omega⟩ ⟨Nat.le_refl _, Nat.le_refl _⟩ hl.1 rfl 0 rfl rfl rfl (Nat.le_of_ble_eq_true rfl) [0, 1, 2] [3, 4, 5, 6, 7, 8, 9, 10] rfl rfl rfl rfl (by decide) dX5_readPart_88 (fun r w1 H locs hq hw => ?_)
        obtain ⟨rfl, rfl⟩ := hq
        have hw : kW γ A ((aWd γ ab a0 a1 a2 a3 a4 a5 a6 a7 a) ++ [(rr, .inr (5, [.ref h, .ref rl, .ref ab, .int mn, .int ((F_fail f n rs 5).1)]))] ++ (tWd γ h hg n f ((F_fail f n rs 5).2.1) ((F_fail f n rs 5).2.2.1) ((F_fail f n rs 5).2.2.2))) s H locs := hw
        refine W.eq (g2 := F0 m 91 ls []) rfl ?_
        refine lv_goto (tgt := 195) hx hb dX5_readPart_91 (by decide) ?_
        have hE : (F_part5 f n rs a) = ((F_fail f n rs 5), a) := by unfold F_part5; rw [if_neg c_169, if_pos c_170, if_neg c_173]
        have hw : kW γ A ((aWd γ ab a0 a1 a2 a3 a4 a5 a6 a7 ((F_part5 f n rs a).2)) ++ [(rr, .inr (5, [.ref h, .ref rl, .ref ab, .int mn, .int (((F_part5 f n rs a).1).1)]))] ++ (tWd γ h hg n f (((F_part5 f n rs a).1).2.1) (((F_part5 f n rs a).1).2.2.1) (((F_part5 f n rs a).1).2.2.2))) s H locs := by first | (rw [hE]; exact hw) | exact hw
        exact k_vret hC hr hlocks hw [8, 9, 10, 0, 1, 2, 3, 4, 5, 6, 7] rfl rfl ⟨rfl, rfl⟩ (Nat.le_refl _) (Nat.le_refl _) dX5_readPart_195
      · refine lv_iload hx hb dX5_readPart_56 (lv_at hl 0 rfl) ?_
        refine lv_if_ne (tgt := 81) hx hb dX5_readPart_58 (by decide) (fun _ => ?_) (fun h => absurd h (by decide))
        refine lv_iload_n hx hb dX5_readPart_81 rfl (lv_at hl 4 rfl) ?_
        refine lv_iconst (v := 5) hx hb dX5_readPart_82 (by decide) ?_
        refine lv_icmp_lt (tgt := 94) hx hb dX5_readPart_83 (by decide) (fun h => absurd h (by decide)) (fun _ => ?_)
        refine lv_aload_n hx hb dX5_readPart_86 rfl (lv_at hl 3 rfl) ?_
        refine lv_iconst (v := 5) hx hb dX5_readPart_87 (by decide) ?_
        refine k_V (wr := (aWd γ ab a0 a1 a2 a3 a4 a5 a6 a7 a)) 1 gw_493 gw_495 gp_5 gw_14 gw_496 hd_X5_fail hC hw (c_fail γ l rr rl ab mn h hg n rs f 5 hn hok) ⟨show 0 + 1 ≤ 3 by omega, show 8 + (2 + 11) + 0 ≤ 80 by omega⟩ ⟨Nat.le_refl _, Nat.le_refl _⟩ hl.1 rfl 0 rfl rfl rfl (Nat.le_of_ble_eq_true rfl) [0, 1, 2] [3, 4, 5, 6, 7, 8, 9, 10] rfl rfl rfl rfl (by decide) dX5_readPart_88 (fun r w1 H locs hq hw => ?_)
        obtain ⟨rfl, rfl⟩ := hq
        have hw : kW γ A ((aWd γ ab a0 a1 a2 a3 a4 a5 a6 a7 a) ++ [(rr, .inr (5, [.ref h, .ref rl, .ref ab, .int mn, .int ((F_fail f n rs 5).1)]))] ++ (tWd γ h hg n f ((F_fail f n rs 5).2.1) ((F_fail f n rs 5).2.2.1) ((F_fail f n rs 5).2.2.2))) s H locs := hw
        refine W.eq (g2 := F0 m 91 ls []) rfl ?_
        refine lv_goto (tgt := 195) hx hb dX5_readPart_91 (by decide) ?_
        have hE : (F_part5 f n rs a) = ((F_fail f n rs 5), a) := by unfold F_part5; rw [if_neg c_169, if_pos c_170, if_pos c_173]
        have hw : kW γ A ((aWd γ ab a0 a1 a2 a3 a4 a5 a6 a7 ((F_part5 f n rs a).2)) ++ [(rr, .inr (5, [.ref h, .ref rl, .ref ab, .int mn, .int (((F_part5 f n rs a).1).1)]))] ++ (tWd γ h hg n f (((F_part5 f n rs a).1).2.1) (((F_part5 f n rs a).1).2.2.1) (((F_part5 f n rs a).1).2.2.2))) s H locs := by first | (rw [hE]; exact hw) | exact hw
        exact k_vret hC hr hlocks hw [8, 9, 10, 0, 1, 2, 3, 4, 5, 6, 7] rfl rfl ⟨rfl, rfl⟩ (Nat.le_refl _) (Nat.le_refl _) dX5_readPart_195
  · refine lv_iconst (v := 1) hx hb dX5_readPart_11 (by decide) ?_
    refine lv_goto (tgt := 16) hx hb dX5_readPart_12 (by decide) ?_
    refine lv_istore_n (lv' := [(2, .int 1), (0, .ref rr), (1, .int 5)]) hx hb dX5_readPart_16 rfl hl (by decide) rfl (fun ls hl => ?_)
    refine lv_aload_n hx hb dX5_readPart_17 rfl (lv_at hl 1 rfl) ?_
    refine fg_RX5_15 hC hw 0 rfl rfl dX5_readPart_18 ?_
    refine fg_RX5_36 hC hw 1 rfl rfl dX5_readPart_21 ?_
    refine k_VO (wr := ([(rr, .inr (5, [.ref h, .ref rl, .ref ab, .int mn, .int (rs.1)]))] ++ (tWd γ h hg n f (rs.2.1) (rs.2.2.1) (rs.2.2.2)) ++ (aWd γ ab a0 a1 a2 a3 a4 a5 a6 a7 a))) 0 gw_614 gw_615 gw_616 gw_4 gw_617 hd_X10_isFact hC hw (c_isFact γ l (tw f n (rs.2.1)) tw_lt) ⟨show 0 + 1 ≤ 3 by omega, show 8 + (1 + 11) + 0 ≤ 80 by omega⟩ ⟨Nat.le_refl _, Nat.le_refl _⟩ hl.1 rfl rfl (tw_lt) rfl (Nat.le_of_ble_eq_true rfl) [] [0, 1, 2, 3, 4, 5, 6, 7, 8, 9, 10] rfl rfl rfl rfl (by decide) dX5_readPart_24 (fun r w1 H locs hq hw => ?_)
    obtain ⟨rfl, rfl⟩ := hq
    have hw : kW γ A ([(rr, .inr (5, [.ref h, .ref rl, .ref ab, .int mn, .int (rs.1)]))] ++ (tWd γ h hg n f (rs.2.1) (rs.2.2.1) (rs.2.2.2)) ++ (aWd γ ab a0 a1 a2 a3 a4 a5 a6 a7 a)) s H locs := hw
    refine W.eq (g2 := F0 m 27 ls [.int (F_isFact (tw f n (rs.2.1)))]) rfl ?_
    refine lv_istore_n (lv' := [(3, .int (F_isFact (tw f n (rs.2.1)))), (2, .int 1), (0, .ref rr), (1, .int 5)]) hx hb dX5_readPart_27 rfl hl (by decide) rfl (fun ls hl => ?_)
    refine lv_aload_n hx hb dX5_readPart_28 rfl (lv_at hl 2 rfl) ?_
    refine fg_RX5_15 hC hw 0 rfl rfl dX5_readPart_29 ?_
    refine fg_RX5_36 hC hw 1 rfl rfl dX5_readPart_32 ?_
    refine k_word hC hw (n := 19) (by decide) gw_626 dX5_readPart_35 ?_
    refine lv_acmp_ne (rx := some (γ.2.2.2.2 (tw f n (rs.2.1)))) (ry := some (γ.2.2.2.2 19)) (tgt := 45) hx hb dX5_readPart_38 (by decide) (fun c_174 => ?_) (fun c_174 => ?_)
    · have c_174 : ¬ (tw f n (rs.2.1)) = 19 := fun h9 => c_174 ((k_weq hC (tw_lt) (by decide)).mpr h9)
      refine lv_iconst (v := 0) hx hb dX5_readPart_45 (by decide) ?_
      refine lv_istore (lv' := [(4, .int 0), (3, .int (F_isFact (tw f n (rs.2.1)))), (2, .int 1), (0, .ref rr), (1, .int 5)]) hx hb dX5_readPart_46 hl (by decide) rfl (fun ls hl => ?_)
      refine lv_iload_n hx hb dX5_readPart_48 rfl (lv_at hl 2 rfl) ?_
      refine lv_if_ne (tgt := 81) hx hb dX5_readPart_49 (by decide) (fun _ => ?_) (fun h => absurd h (by decide))
      refine lv_iload_n hx hb dX5_readPart_81 rfl (lv_at hl 4 rfl) ?_
      refine lv_iconst (v := 5) hx hb dX5_readPart_82 (by decide) ?_
      refine lv_icmp_lt (tgt := 94) hx hb dX5_readPart_83 (by decide) (fun h => absurd h (by decide)) (fun _ => ?_)
      refine lv_aload_n hx hb dX5_readPart_86 rfl (lv_at hl 3 rfl) ?_
      refine lv_iconst (v := 5) hx hb dX5_readPart_87 (by decide) ?_
      refine k_V (wr := (aWd γ ab a0 a1 a2 a3 a4 a5 a6 a7 a)) 1 gw_493 gw_495 gp_5 gw_14 gw_496 hd_X5_fail hC hw (c_fail γ l rr rl ab mn h hg n rs f 5 hn hok) ⟨show 0 + 1 ≤ 3 by omega, show 8 + (2 + 11) + 0 ≤ 80 by omega⟩ ⟨Nat.le_refl _, Nat.le_refl _⟩ hl.1 rfl 0 rfl rfl rfl (Nat.le_of_ble_eq_true rfl) [0, 1, 2] [3, 4, 5, 6, 7, 8, 9, 10] rfl rfl rfl rfl (by decide) dX5_readPart_88 (fun r w1 H locs hq hw => ?_)
      obtain ⟨rfl, rfl⟩ := hq
      have hw : kW γ A ((aWd γ ab a0 a1 a2 a3 a4 a5 a6 a7 a) ++ [(rr, .inr (5, [.ref h, .ref rl, .ref ab, .int mn, .int ((F_fail f n rs 5).1)]))] ++ (tWd γ h hg n f ((F_fail f n rs 5).2.1) ((F_fail f n rs 5).2.2.1) ((F_fail f n rs 5).2.2.2))) s H locs := hw
      refine W.eq (g2 := F0 m 91 ls []) rfl ?_
      refine lv_goto (tgt := 195) hx hb dX5_readPart_91 (by decide) ?_
      have hE : (F_part5 f n rs a) = ((F_fail f n rs 5), a) := by unfold F_part5; rw [if_pos c_169, if_neg c_174]
      have hw : kW γ A ((aWd γ ab a0 a1 a2 a3 a4 a5 a6 a7 ((F_part5 f n rs a).2)) ++ [(rr, .inr (5, [.ref h, .ref rl, .ref ab, .int mn, .int (((F_part5 f n rs a).1).1)]))] ++ (tWd γ h hg n f (((F_part5 f n rs a).1).2.1) (((F_part5 f n rs a).1).2.2.1) (((F_part5 f n rs a).1).2.2.2))) s H locs := by first | (rw [hE]; exact hw) | exact hw
      exact k_vret hC hr hlocks hw [8, 9, 10, 0, 1, 2, 3, 4, 5, 6, 7] rfl rfl ⟨rfl, rfl⟩ (Nat.le_refl _) (Nat.le_refl _) dX5_readPart_195
    · have c_174 : (tw f n (rs.2.1)) = 19 := (k_weq hC (tw_lt) (by decide)).mp c_174
      refine lv_iconst (v := 1) hx hb dX5_readPart_41 (by decide) ?_
      refine lv_goto (tgt := 46) hx hb dX5_readPart_42 (by decide) ?_
      refine lv_istore (lv' := [(4, .int 1), (3, .int (F_isFact (tw f n (rs.2.1)))), (2, .int 1), (0, .ref rr), (1, .int 5)]) hx hb dX5_readPart_46 hl (by decide) rfl (fun ls hl => ?_)
      refine lv_iload_n hx hb dX5_readPart_48 rfl (lv_at hl 2 rfl) ?_
      refine lv_if_ne (tgt := 81) hx hb dX5_readPart_49 (by decide) (fun _ => ?_) (fun h => absurd h (by decide))
      refine lv_iload_n hx hb dX5_readPart_81 rfl (lv_at hl 4 rfl) ?_
      refine lv_iconst (v := 5) hx hb dX5_readPart_82 (by decide) ?_
      refine lv_icmp_lt (tgt := 94) hx hb dX5_readPart_83 (by decide) (fun h => absurd h (by decide)) (fun _ => ?_)
      refine lv_aload_n hx hb dX5_readPart_86 rfl (lv_at hl 3 rfl) ?_
      refine lv_iconst (v := 5) hx hb dX5_readPart_87 (by decide) ?_
      refine k_V (wr := (aWd γ ab a0 a1 a2 a3 a4 a5 a6 a7 a)) 1 gw_493 gw_495 gp_5 gw_14 gw_496 hd_X5_fail hC hw (c_fail γ l rr rl ab mn h hg n rs f 5 hn hok) ⟨show 0 + 1 ≤ 3 by omega, show 8 + (2 + 11) + 0 ≤ 80 by omega⟩ ⟨Nat.le_refl _, Nat.le_refl _⟩ hl.1 rfl 0 rfl rfl rfl (Nat.le_of_ble_eq_true rfl) [0, 1, 2] [3, 4, 5, 6, 7, 8, 9, 10] rfl rfl rfl rfl (by decide) dX5_readPart_88 (fun r w1 H locs hq hw => ?_)
      obtain ⟨rfl, rfl⟩ := hq
      have hw : kW γ A ((aWd γ ab a0 a1 a2 a3 a4 a5 a6 a7 a) ++ [(rr, .inr (5, [.ref h, .ref rl, .ref ab, .int mn, .int ((F_fail f n rs 5).1)]))] ++ (tWd γ h hg n f ((F_fail f n rs 5).2.1) ((F_fail f n rs 5).2.2.1) ((F_fail f n rs 5).2.2.2))) s H locs := hw
      refine W.eq (g2 := F0 m 91 ls []) rfl ?_
      refine lv_goto (tgt := 195) hx hb dX5_readPart_91 (by decide) ?_
      have hE : (F_part5 f n rs a) = ((F_fail f n rs 5), a) := by unfold F_part5; rw [if_pos c_169, if_pos c_174]
      have hw : kW γ A ((aWd γ ab a0 a1 a2 a3 a4 a5 a6 a7 ((F_part5 f n rs a).2)) ++ [(rr, .inr (5, [.ref h, .ref rl, .ref ab, .int mn, .int (((F_part5 f n rs a).1).1)]))] ++ (tWd γ h hg n f (((F_part5 f n rs a).1).2.1) (((F_part5 f n rs a).1).2.2.1) (((F_part5 f n rs a).1).2.2.2))) s H locs := by first | (rw [hE]; exact hw) | exact hw
      exact k_vret hC hr hlocks hw [8, 9, 10, 0, 1, 2, 3, 4, 5, 6, 7] rfl rfl ⟨rfl, rfl⟩ (Nat.le_refl _) (Nat.le_refl _) dX5_readPart_195

theorem ok_part5 {f : Nat → Int32} {n : Nat} {rs : rRS} {a : aAS} (hA : aOK a) : aOK (F_part5 f n rs a).2 := by
  unfold F_part5
  repeat' split
  all_goals exact hA

def F_part (f : Nat → Int32) (n : Nat) (P : rRS → aAS → rRS × aAS) (L : rRS → aAS → rRS × aAS) (rs : rRS) (a : aAS) : rRS × aAS :=
  if (tk f n (rs.2.1)) = 2 then (if (tw f n (rs.2.1)) = 19 then ((av f n rs), (F_addCode a (rs.2.2.1))) else ((av f n rs), (F_addCode a (rs.2.2.1)))) else (if (tw f n (rs.2.1)) = 19 then (if (F_isFact (tw f n (rs.2.1))) = 0 then (((P (av f n rs) a).1), (F_addCode ((P (av f n rs) a).2) (-5))) else ((av f n rs), (F_addCode a (kWv.getD (tw f n (rs.2.1)) 0)))) else (if (F_isFact (tw f n (rs.2.1))) = 0 then (if (tk f n (rs.2.1)) = 40 then ((F_passSign f n ((L (av f n rs) a).1) 41), ((L (av f n rs) a).2)) else ((F_fail f n rs 1), a)) else ((av f n rs), (F_addCode a (kWv.getD (tw f n (rs.2.1)) 0)))))
set_option maxHeartbeats 4000000 in
set_option maxRecDepth 100000 in
theorem c_part (γ : kΓ) (l : Launch) (rr : Nat) (rl : Nat) (ab : Nat) (mn : Int32) (h : Nat) (hg : Nat) (n : Nat) (rs : rRS) (f : Nat → Int32) (a0 : Nat) (a1 : Nat) (a2 : Nat) (a3 : Nat) (a4 : Nat) (a5 : Nat) (a6 : Nat) (a7 : Nat) (a : aAS) (P : rRS → aAS → rRS × aAS) (L : rRS → aAS → rRS × aAS) (fr : Nat) (lo : Nat) (dp : Int32) (dq : Int32) (hn : n ≤ 1000) (hok : ∀ k, k < n → kok (f k) = true) (hA : aOK a) (hfr : 2 ≤ fr) (hlo : 60 ≤ lo) (hd5 : ¬ 5 ≤ dp) (hdq : dp + 1 = dq) (hP : ∀ (rs : rRS) (a : aAS), aOK a → kM γ l yX5_readPart cX5_readPart 5 none ({ frames := fr, cells := 0, slots := 0, locals := lo } : Room) [.ref rr, .int dq] ([(rr, .inr (5, [.ref h, .ref rl, .ref ab, .int mn, .int (rs.1)]))] ++ (tWd γ h hg n f (rs.2.1) (rs.2.2.1) (rs.2.2.2)) ++ (aWd γ ab a0 a1 a2 a3 a4 a5 a6 a7 a)) (fun r w1 => r = none ∧ w1 = ([(rr, .inr (5, [.ref h, .ref rl, .ref ab, .int mn, .int (((P rs a).1).1)]))] ++ (tWd γ h hg n f (((P rs a).1).2.1) (((P rs a).1).2.2.1) (((P rs a).1).2.2.2)) ++ (aWd γ ab a0 a1 a2 a3 a4 a5 a6 a7 ((P rs a).2))))) (hL : ∀ (rs : rRS) (a : aAS), aOK a → kM γ l yX5_readLevel cX5_readLevel 5 none ({ frames := (fr + 5), cells := 0, slots := 0, locals := (lo + 120) } : Room) [.ref rr, .int 0, .int dq] ([(rr, .inr (5, [.ref h, .ref rl, .ref ab, .int mn, .int (rs.1)]))] ++ (tWd γ h hg n f (rs.2.1) (rs.2.2.1) (rs.2.2.2)) ++ (aWd γ ab a0 a1 a2 a3 a4 a5 a6 a7 a)) (fun r w1 => r = none ∧ w1 = ([(rr, .inr (5, [.ref h, .ref rl, .ref ab, .int mn, .int (((L rs a).1).1)]))] ++ (tWd γ h hg n f (((L rs a).1).2.1) (((L rs a).1).2.2.1) (((L rs a).1).2.2.2)) ++ (aWd γ ab a0 a1 a2 a3 a4 a5 a6 a7 ((L rs a).2))))) (hPo : ∀ (rs : rRS) (a : aAS), aOK a → aOK (P rs a).2) (hLo : ∀ (rs : rRS) (a : aAS), aOK a → aOK (L rs a).2) : kM γ l yX5_readPart cX5_readPart 5 none ({ frames := (fr + 6), cells := 0, slots := 0, locals := (lo + 144) } : Room) [.ref rr, .int dp] ([(rr, .inr (5, [.ref h, .ref rl, .ref ab, .int mn, .int (rs.1)]))] ++ (tWd γ h hg n f (rs.2.1) (rs.2.2.1) (rs.2.2.2)) ++ (aWd γ ab a0 a1 a2 a3 a4 a5 a6 a7 a)) (fun r w1 => r = none ∧ w1 = ([(rr, .inr (5, [.ref h, .ref rl, .ref ab, .int mn, .int (((F_part f n P L rs a).1).1)]))] ++ (tWd γ h hg n f (((F_part f n P L rs a).1).2.1) (((F_part f n P L rs a).1).2.2.1) (((F_part f n P L rs a).1).2.2.2)) ++ (aWd γ ab a0 a1 a2 a3 a4 a5 a6 a7 ((F_part f n P L rs a).2)))) := by
  refine k_ofW (by decide) (Nat.le_of_ble_eq_true rfl) ?_
  intro p9 e s m below meth c A ls hC hr hlocks hname hw hl
  have hx := hC.1
  have hb := hC.2.1
  have hl : lv_has ls 5 [(0, .ref rr), (1, .int dp)] := hl
  have hT : (a.2.2.2.2.2.2.2.1) ≤ 8 := hA.1
  have hQ : (a.2.2.2.2.2.2.2.2.1) ≤ 5 := hA.2.1
  have hE9 : (a.2.2.2.2.2.2.2.2.2.2.2.2.2.1) ≤ 1000 := hA.2.2
  refine lv_aload_n hx hb dX5_readPart_0 rfl (lv_at hl 0 rfl) ?_
  refine fg_RX5_15 hC hw 0 rfl rfl dX5_readPart_1 ?_
  refine fg_RX5_116 hC hw 1 rfl rfl dX5_readPart_4 ?_
  refine lv_iconst (v := 2) hx hb dX5_readPart_7 (by decide) ?_
  refine lv_icmp_ne (tgt := 15) hx hb dX5_readPart_8 (by decide) (fun c_183 => ?_) (fun c_183 => ?_)
  · refine lv_iconst (v := 0) hx hb dX5_readPart_15 (by decide) ?_
    refine lv_istore_n (lv' := [(2, .int 0), (0, .ref rr), (1, .int dp)]) hx hb dX5_readPart_16 rfl hl (by decide) rfl (fun ls hl => ?_)
    refine lv_aload_n hx hb dX5_readPart_17 rfl (lv_at hl 1 rfl) ?_
    refine fg_RX5_15 hC hw 0 rfl rfl dX5_readPart_18 ?_
    refine fg_RX5_36 hC hw 1 rfl rfl dX5_readPart_21 ?_
    refine k_VO (wr := ([(rr, .inr (5, [.ref h, .ref rl, .ref ab, .int mn, .int (rs.1)]))] ++ (tWd γ h hg n f (rs.2.1) (rs.2.2.1) (rs.2.2.2)) ++ (aWd γ ab a0 a1 a2 a3 a4 a5 a6 a7 a))) 0 gw_614 gw_615 gw_616 gw_4 gw_617 hd_X10_isFact hC hw (c_isFact γ l (tw f n (rs.2.1)) tw_lt) ⟨show 0 + 1 ≤ (fr + 6) by omega, show 8 + (1 + 11) + 0 ≤ (lo + 144) by omega⟩ ⟨Nat.le_refl _, Nat.le_refl _⟩ hl.1 rfl rfl (tw_lt) rfl (Nat.le_of_ble_eq_true rfl) [] [0, 1, 2, 3, 4, 5, 6, 7, 8, 9, 10] rfl rfl rfl rfl (by decide) dX5_readPart_24 (fun r w1 H locs hq hw => ?_)
    obtain ⟨rfl, rfl⟩ := hq
    have hw : kW γ A ([(rr, .inr (5, [.ref h, .ref rl, .ref ab, .int mn, .int (rs.1)]))] ++ (tWd γ h hg n f (rs.2.1) (rs.2.2.1) (rs.2.2.2)) ++ (aWd γ ab a0 a1 a2 a3 a4 a5 a6 a7 a)) s H locs := hw
    refine W.eq (g2 := F0 m 27 ls [.int (F_isFact (tw f n (rs.2.1)))]) rfl ?_
    refine lv_istore_n (lv' := [(3, .int (F_isFact (tw f n (rs.2.1)))), (2, .int 0), (0, .ref rr), (1, .int dp)]) hx hb dX5_readPart_27 rfl hl (by decide) rfl (fun ls hl => ?_)
    refine lv_aload_n hx hb dX5_readPart_28 rfl (lv_at hl 2 rfl) ?_
    refine fg_RX5_15 hC hw 0 rfl rfl dX5_readPart_29 ?_
    refine fg_RX5_36 hC hw 1 rfl rfl dX5_readPart_32 ?_
    refine k_word hC hw (n := 19) (by decide) gw_626 dX5_readPart_35 ?_
    refine lv_acmp_ne (rx := some (γ.2.2.2.2 (tw f n (rs.2.1)))) (ry := some (γ.2.2.2.2 19)) (tgt := 45) hx hb dX5_readPart_38 (by decide) (fun c_184 => ?_) (fun c_184 => ?_)
    · have c_184 : ¬ (tw f n (rs.2.1)) = 19 := fun h9 => c_184 ((k_weq hC (tw_lt) (by decide)).mpr h9)
      refine lv_iconst (v := 0) hx hb dX5_readPart_45 (by decide) ?_
      refine lv_istore (lv' := [(4, .int 0), (3, .int (F_isFact (tw f n (rs.2.1)))), (2, .int 0), (0, .ref rr), (1, .int dp)]) hx hb dX5_readPart_46 hl (by decide) rfl (fun ls hl => ?_)
      refine lv_iload_n hx hb dX5_readPart_48 rfl (lv_at hl 2 rfl) ?_
      refine lv_if_ne (tgt := 81) hx hb dX5_readPart_49 (by decide) (fun h => absurd rfl h) (fun _ => ?_)
      refine lv_iload_n hx hb dX5_readPart_52 rfl (lv_at hl 1 rfl) ?_
      refine lv_if_ne (tgt := 81) hx hb dX5_readPart_53 (by decide) (fun c_185 => ?_) (fun c_185 => ?_)
      · refine lv_iload_n hx hb dX5_readPart_81 rfl (lv_at hl 4 rfl) ?_
        refine lv_iconst (v := 5) hx hb dX5_readPart_82 (by decide) ?_
        refine lv_icmp_lt (tgt := 94) hx hb dX5_readPart_83 (by decide) (fun _ => ?_) (fun h => absurd (Int32.not_le.mp hd5) h)
        refine lv_iload_n hx hb dX5_readPart_94 rfl (lv_at hl 2 rfl) ?_
        refine lv_if_ne (tgt := 102) hx hb dX5_readPart_95 (by decide) (fun h => absurd rfl h) (fun _ => ?_)
        refine lv_iload_n hx hb dX5_readPart_98 rfl (lv_at hl 1 rfl) ?_
        refine lv_if_eq (tgt := 143) hx hb dX5_readPart_99 (by decide) (fun h => absurd h c_185) (fun _ => ?_)
        refine lv_aload_n hx hb dX5_readPart_102 rfl (lv_at hl 3 rfl) ?_
        refine fg_RX5_19 hC hw 0 rfl rfl dX5_readPart_103 ?_
        refine lv_iload_n hx hb dX5_readPart_106 rfl (lv_at hl 2 rfl) ?_
        refine lv_if_eq (tgt := 120) hx hb dX5_readPart_107 (by decide) (fun _ => ?_) (fun h => absurd (by decide) h)
        refine lv_aload_n hx hb dX5_readPart_120 rfl (lv_at hl 3 rfl) ?_
        refine fg_RX5_15 hC hw 0 rfl rfl dX5_readPart_121 ?_
        refine fg_RX5_36 hC hw 1 rfl rfl dX5_readPart_124 ?_
        refine k_wordN hC hw (k_zw hC).2.2.2.1 (tw_lt) nw_1834 dX5_readPart_127 ?_
        refine k_V (wr := ([(rr, .inr (5, [.ref h, .ref rl, .ref ab, .int mn, .int (rs.1)]))] ++ (tWd γ h hg n f (rs.2.1) (rs.2.2.1) (rs.2.2.2)))) 1 gw_628 gw_629 gw_630 gw_13 gw_631 hd_X0_addCode hC hw (c_addCode γ l ab a0 a1 a2 a3 a4 a5 a6 a7 a (kWv.getD (tw f n (rs.2.1)) 0) hA) ⟨show 0 + 1 ≤ (fr + 6) by omega, show 8 + (2 + 11) + 0 ≤ (lo + 144) by omega⟩ ⟨Nat.le_refl _, Nat.le_refl _⟩ hl.1 rfl 3 rfl rfl rfl (Nat.le_of_ble_eq_true rfl) [3, 4, 5, 6, 7, 8, 9, 10] [0, 1, 2] rfl rfl rfl rfl (by decide) dX5_readPart_130 (fun r w1 H locs hq hw => ?_)
        obtain ⟨rfl, rfl⟩ := hq
        have hw : kW γ A ([(rr, .inr (5, [.ref h, .ref rl, .ref ab, .int mn, .int (rs.1)]))] ++ (tWd γ h hg n f (rs.2.1) (rs.2.2.1) (rs.2.2.2)) ++ (aWd γ ab a0 a1 a2 a3 a4 a5 a6 a7 (F_addCode a (kWv.getD (tw f n (rs.2.1)) 0)))) s H locs := hw
        refine W.eq (g2 := F0 m 133 ls []) rfl ?_
        refine lv_aload_n hx hb dX5_readPart_133 rfl (lv_at hl 3 rfl) ?_
        refine fg_RX5_15 hC hw 0 rfl rfl dX5_readPart_134 ?_
        refine k_V (wr := ([(rr, .inr (5, [.ref h, .ref rl, .ref ab, .int mn, .int (rs.1)]))] ++ (aWd γ ab a0 a1 a2 a3 a4 a5 a6 a7 (F_addCode a (kWv.getD (tw f n (rs.2.1)) 0))))) 0 gw_497 gw_461 gw_462 gw_2 gw_463 hd_X8_advance hC hw (c_av γ l h hg n rs f hn hok) ⟨show 1 + 1 ≤ (fr + 6) by omega, show 8 + (2 + 11) + 40 ≤ (lo + 144) by omega⟩ ⟨Nat.le_refl _, Nat.le_refl _⟩ hl.1 rfl 1 rfl rfl rfl (Nat.le_of_ble_eq_true rfl) [1, 2] [0, 3, 4, 5, 6, 7, 8, 9, 10] rfl rfl rfl rfl (by decide) dX5_readPart_137 (fun r w1 H locs hq hw => ?_)
        obtain ⟨rfl, rfl⟩ := hq
        have hw : kW γ A ([(rr, .inr (5, [.ref h, .ref rl, .ref ab, .int mn, .int (rs.1)]))] ++ (aWd γ ab a0 a1 a2 a3 a4 a5 a6 a7 (F_addCode a (kWv.getD (tw f n (rs.2.1)) 0))) ++ (tWd γ h hg n f ((av f n rs).2.1) ((av f n rs).2.2.1) ((av f n rs).2.2.2))) s H locs := hw
        refine W.eq (g2 := F0 m 140 ls []) rfl ?_
        refine lv_goto (tgt := 195) hx hb dX5_readPart_140 (by decide) ?_
        have hE : (F_part f n P L rs a) = ((av f n rs), (F_addCode a (kWv.getD (tw f n (rs.2.1)) 0))) := by unfold F_part; rw [if_neg c_183, if_neg c_184, if_neg c_185]
        have hw : kW γ A ([(rr, .inr (5, [.ref h, .ref rl, .ref ab, .int mn, .int (((F_part f n P L rs a).1).1)]))] ++ (aWd γ ab a0 a1 a2 a3 a4 a5 a6 a7 ((F_part f n P L rs a).2)) ++ (tWd γ h hg n f (((F_part f n P L rs a).1).2.1) (((F_part f n P L rs a).1).2.2.1) (((F_part f n P L rs a).1).2.2.2))) s H locs := by first | (rw [hE]; exact hw) | exact hw
        exact k_vret hC hr hlocks hw [0, 9, 10, 1, 2, 3, 4, 5, 6, 7, 8] rfl rfl ⟨rfl, rfl⟩ (Nat.le_refl _) (Nat.le_refl _) dX5_readPart_195
      · refine lv_iload hx hb dX5_readPart_56 (lv_at hl 0 rfl) ?_
        refine lv_if_ne (tgt := 81) hx hb dX5_readPart_58 (by decide) (fun h => absurd rfl h) (fun _ => ?_)
        refine lv_aload_n hx hb dX5_readPart_61 rfl (lv_at hl 3 rfl) ?_
        refine fg_RX5_15 hC hw 0 rfl rfl dX5_readPart_62 ?_
        refine fg_RX5_116 hC hw 1 rfl rfl dX5_readPart_65 ?_
        refine lv_bipush (v := 40) hx hb dX5_readPart_68 (by decide) ?_
        refine lv_icmp_eq (tgt := 81) hx hb dX5_readPart_70 (by decide) (fun c_186 => ?_) (fun c_186 => ?_)
        · refine lv_iload_n hx hb dX5_readPart_81 rfl (lv_at hl 4 rfl) ?_
          refine lv_iconst (v := 5) hx hb dX5_readPart_82 (by decide) ?_
          refine lv_icmp_lt (tgt := 94) hx hb dX5_readPart_83 (by decide) (fun _ => ?_) (fun h => absurd (Int32.not_le.mp hd5) h)
          refine lv_iload_n hx hb dX5_readPart_94 rfl (lv_at hl 2 rfl) ?_
          refine lv_if_ne (tgt := 102) hx hb dX5_readPart_95 (by decide) (fun h => absurd rfl h) (fun _ => ?_)
          refine lv_iload_n hx hb dX5_readPart_98 rfl (lv_at hl 1 rfl) ?_
          refine lv_if_eq (tgt := 143) hx hb dX5_readPart_99 (by decide) (fun _ => ?_) (fun h => absurd c_185 h)
          refine lv_iload hx hb dX5_readPart_143 (lv_at hl 0 rfl) ?_
          refine lv_if_eq (tgt := 174) hx hb dX5_readPart_145 (by decide) (fun _ => ?_) (fun h => absurd (by decide) h)
          refine lv_aload_n hx hb dX5_readPart_174 rfl (lv_at hl 3 rfl) ?_
          refine fg_RX5_15 hC hw 0 rfl rfl dX5_readPart_175 ?_
          refine k_V (wr := ([(rr, .inr (5, [.ref h, .ref rl, .ref ab, .int mn, .int (rs.1)]))] ++ (aWd γ ab a0 a1 a2 a3 a4 a5 a6 a7 a))) 0 gw_497 gw_461 gw_462 gw_2 gw_463 hd_X8_advance hC hw (c_av γ l h hg n rs f hn hok) ⟨show 1 + 1 ≤ (fr + 6) by omega, show 8 + (2 + 11) + 40 ≤ (lo + 144) by omega⟩ ⟨Nat.le_refl _, Nat.le_refl _⟩ hl.1 rfl 1 rfl rfl rfl (Nat.le_of_ble_eq_true rfl) [1, 2] [0, 3, 4, 5, 6, 7, 8, 9, 10] rfl rfl rfl rfl (by decide) dX5_readPart_178 (fun r w1 H locs hq hw => ?_)
          obtain ⟨rfl, rfl⟩ := hq
          have hw : kW γ A ([(rr, .inr (5, [.ref h, .ref rl, .ref ab, .int mn, .int (rs.1)]))] ++ (aWd γ ab a0 a1 a2 a3 a4 a5 a6 a7 a) ++ (tWd γ h hg n f ((av f n rs).2.1) ((av f n rs).2.2.1) ((av f n rs).2.2.2))) s H locs := hw
          refine W.eq (g2 := F0 m 181 ls []) rfl ?_
          refine lv_aload_n hx hb dX5_readPart_181 rfl (lv_at hl 3 rfl) ?_
          refine lv_iconst (v := 0) hx hb dX5_readPart_182 (by decide) ?_
          refine lv_iload_n hx hb dX5_readPart_183 rfl (lv_at hl 4 rfl) ?_
          refine lv_iconst (v := 1) hx hb dX5_readPart_184 (by decide) ?_
          refine lv_iadd hx hb dX5_readPart_185 ?_
          refine lv_topi (fun x_187 ex_187 => ?_)
          obtain rfl : x_187 = dq := ex_187.trans hdq
          refine k_V (wr := []) 2 gw_606 gw_608 gp_18 gw_14 gw_609 hd_X5_readLevel hC hw (hL (av f n rs) a hA) ⟨show (fr + 5) + 1 ≤ (fr + 6) by omega, show 8 + (5 + 11) + (lo + 120) ≤ (lo + 144) by omega⟩ ⟨Nat.le_refl _, Nat.le_refl _⟩ hl.1 rfl 0 rfl rfl rfl (Nat.le_of_ble_eq_true rfl) [0, 9, 10, 1, 2, 3, 4, 5, 6, 7, 8] [] rfl rfl rfl rfl (by decide) dX5_readPart_186 (fun r w1 H locs hq hw => ?_)
          obtain ⟨rfl, rfl⟩ := hq
          have hw : kW γ A ([(rr, .inr (5, [.ref h, .ref rl, .ref ab, .int mn, .int (((L (av f n rs) a).1).1)]))] ++ (tWd γ h hg n f (((L (av f n rs) a).1).2.1) (((L (av f n rs) a).1).2.2.1) (((L (av f n rs) a).1).2.2.2)) ++ (aWd γ ab a0 a1 a2 a3 a4 a5 a6 a7 ((L (av f n rs) a).2))) s H locs := hw
          refine W.eq (g2 := F0 m 189 ls []) rfl ?_
          refine lv_aload_n hx hb dX5_readPart_189 rfl (lv_at hl 3 rfl) ?_
          refine lv_bipush (v := 41) hx hb dX5_readPart_190 (by decide) ?_
          refine k_V (wr := (aWd γ ab a0 a1 a2 a3 a4 a5 a6 a7 ((L (av f n rs) a).2))) 1 gw_529 gw_531 gp_10 gw_14 gw_532 hd_X5_passSign hC hw (c_passSign γ l rr rl ab mn h hg n ((L (av f n rs) a).1) f 41 hn hok) ⟨show 2 + 1 ≤ (fr + 6) by omega, show 8 + (2 + 11) + 61 ≤ (lo + 144) by omega⟩ ⟨Nat.le_refl _, Nat.le_refl _⟩ hl.1 rfl 0 rfl rfl rfl (Nat.le_of_ble_eq_true rfl) [0, 1, 2] [3, 4, 5, 6, 7, 8, 9, 10] rfl rfl rfl rfl (by decide) dX5_readPart_192 (fun r w1 H locs hq hw => ?_)
          obtain ⟨rfl, rfl⟩ := hq
          have hw : kW γ A ((aWd γ ab a0 a1 a2 a3 a4 a5 a6 a7 ((L (av f n rs) a).2)) ++ [(rr, .inr (5, [.ref h, .ref rl, .ref ab, .int mn, .int ((F_passSign f n ((L (av f n rs) a).1) 41).1)]))] ++ (tWd γ h hg n f ((F_passSign f n ((L (av f n rs) a).1) 41).2.1) ((F_passSign f n ((L (av f n rs) a).1) 41).2.2.1) ((F_passSign f n ((L (av f n rs) a).1) 41).2.2.2))) s H locs := hw
          refine W.eq (g2 := F0 m 195 ls []) rfl ?_
          have hE : (F_part f n P L rs a) = ((F_passSign f n ((L (av f n rs) a).1) 41), ((L (av f n rs) a).2)) := by unfold F_part; rw [if_neg c_183, if_neg c_184, if_pos c_185, if_pos c_186]
          have hw : kW γ A ((aWd γ ab a0 a1 a2 a3 a4 a5 a6 a7 ((F_part f n P L rs a).2)) ++ [(rr, .inr (5, [.ref h, .ref rl, .ref ab, .int mn, .int (((F_part f n P L rs a).1).1)]))] ++ (tWd γ h hg n f (((F_part f n P L rs a).1).2.1) (((F_part f n P L rs a).1).2.2.1) (((F_part f n P L rs a).1).2.2.2))) s H locs := by first | (rw [hE]; exact hw) | exact hw
          exact k_vret hC hr hlocks hw [8, 9, 10, 0, 1, 2, 3, 4, 5, 6, 7] rfl rfl ⟨rfl, rfl⟩ (Nat.le_refl _) (Nat.le_refl _) dX5_readPart_195
        · refine lv_aload_n hx hb dX5_readPart_73 rfl (lv_at hl 3 rfl) ?_
          refine lv_iconst (v := 1) hx hb dX5_readPart_74 (by decide) ?_
          refine k_V (wr := (aWd γ ab a0 a1 a2 a3 a4 a5 a6 a7 a)) 1 gw_493 gw_495 gp_5 gw_14 gw_496 hd_X5_fail hC hw (c_fail γ l rr rl ab mn h hg n rs f 1 hn hok) ⟨show 0 + 1 ≤ (fr + 6) by omega, show 8 + (2 + 11) + 0 ≤ (lo + 144) by omega⟩ ⟨Nat.le_refl _, Nat.le_refl _⟩ hl.1 rfl 0 rfl rfl rfl (Nat.le_of_ble_eq_true rfl) [0, 1, 2] [3, 4, 5, 6, 7, 8, 9, 10] rfl rfl rfl rfl (by decide) dX5_readPart_75 (fun r w1 H locs hq hw => ?_)
          obtain ⟨rfl, rfl⟩ := hq
          have hw : kW γ A ((aWd γ ab a0 a1 a2 a3 a4 a5 a6 a7 a) ++ [(rr, .inr (5, [.ref h, .ref rl, .ref ab, .int mn, .int ((F_fail f n rs 1).1)]))] ++ (tWd γ h hg n f ((F_fail f n rs 1).2.1) ((F_fail f n rs 1).2.2.1) ((F_fail f n rs 1).2.2.2))) s H locs := hw
          refine W.eq (g2 := F0 m 78 ls []) rfl ?_
          refine lv_goto (tgt := 195) hx hb dX5_readPart_78 (by decide) ?_
          have hE : (F_part f n P L rs a) = ((F_fail f n rs 1), a) := by unfold F_part; rw [if_neg c_183, if_neg c_184, if_pos c_185, if_neg c_186]
          have hw : kW γ A ((aWd γ ab a0 a1 a2 a3 a4 a5 a6 a7 ((F_part f n P L rs a).2)) ++ [(rr, .inr (5, [.ref h, .ref rl, .ref ab, .int mn, .int (((F_part f n P L rs a).1).1)]))] ++ (tWd γ h hg n f (((F_part f n P L rs a).1).2.1) (((F_part f n P L rs a).1).2.2.1) (((F_part f n P L rs a).1).2.2.2))) s H locs := by first | (rw [hE]; exact hw) | exact hw
          exact k_vret hC hr hlocks hw [8, 9, 10, 0, 1, 2, 3, 4, 5, 6, 7] rfl rfl ⟨rfl, rfl⟩ (Nat.le_refl _) (Nat.le_refl _) dX5_readPart_195
    · have c_184 : (tw f n (rs.2.1)) = 19 := (k_weq hC (tw_lt) (by decide)).mp c_184
      refine lv_iconst (v := 1) hx hb dX5_readPart_41 (by decide) ?_
      refine lv_goto (tgt := 46) hx hb dX5_readPart_42 (by decide) ?_
      refine lv_istore (lv' := [(4, .int 1), (3, .int (F_isFact (tw f n (rs.2.1)))), (2, .int 0), (0, .ref rr), (1, .int dp)]) hx hb dX5_readPart_46 hl (by decide) rfl (fun ls hl => ?_)
      refine lv_iload_n hx hb dX5_readPart_48 rfl (lv_at hl 2 rfl) ?_
      refine lv_if_ne (tgt := 81) hx hb dX5_readPart_49 (by decide) (fun h => absurd rfl h) (fun _ => ?_)
      refine lv_iload_n hx hb dX5_readPart_52 rfl (lv_at hl 1 rfl) ?_
      refine lv_if_ne (tgt := 81) hx hb dX5_readPart_53 (by decide) (fun c_188 => ?_) (fun c_188 => ?_)
      · refine lv_iload_n hx hb dX5_readPart_81 rfl (lv_at hl 4 rfl) ?_
        refine lv_iconst (v := 5) hx hb dX5_readPart_82 (by decide) ?_
        refine lv_icmp_lt (tgt := 94) hx hb dX5_readPart_83 (by decide) (fun _ => ?_) (fun h => absurd (Int32.not_le.mp hd5) h)
        refine lv_iload_n hx hb dX5_readPart_94 rfl (lv_at hl 2 rfl) ?_
        refine lv_if_ne (tgt := 102) hx hb dX5_readPart_95 (by decide) (fun h => absurd rfl h) (fun _ => ?_)
        refine lv_iload_n hx hb dX5_readPart_98 rfl (lv_at hl 1 rfl) ?_
        refine lv_if_eq (tgt := 143) hx hb dX5_readPart_99 (by decide) (fun h => absurd h c_188) (fun _ => ?_)
        refine lv_aload_n hx hb dX5_readPart_102 rfl (lv_at hl 3 rfl) ?_
        refine fg_RX5_19 hC hw 0 rfl rfl dX5_readPart_103 ?_
        refine lv_iload_n hx hb dX5_readPart_106 rfl (lv_at hl 2 rfl) ?_
        refine lv_if_eq (tgt := 120) hx hb dX5_readPart_107 (by decide) (fun _ => ?_) (fun h => absurd (by decide) h)
        refine lv_aload_n hx hb dX5_readPart_120 rfl (lv_at hl 3 rfl) ?_
        refine fg_RX5_15 hC hw 0 rfl rfl dX5_readPart_121 ?_
        refine fg_RX5_36 hC hw 1 rfl rfl dX5_readPart_124 ?_
        refine k_wordN hC hw (k_zw hC).2.2.2.1 (tw_lt) nw_1834 dX5_readPart_127 ?_
        refine k_V (wr := ([(rr, .inr (5, [.ref h, .ref rl, .ref ab, .int mn, .int (rs.1)]))] ++ (tWd γ h hg n f (rs.2.1) (rs.2.2.1) (rs.2.2.2)))) 1 gw_628 gw_629 gw_630 gw_13 gw_631 hd_X0_addCode hC hw (c_addCode γ l ab a0 a1 a2 a3 a4 a5 a6 a7 a (kWv.getD (tw f n (rs.2.1)) 0) hA) ⟨show 0 + 1 ≤ (fr + 6) by omega, show 8 + (2 + 11) + 0 ≤ (lo + 144) by omega⟩ ⟨Nat.le_refl _, Nat.le_refl _⟩ hl.1 rfl 3 rfl rfl rfl (Nat.le_of_ble_eq_true rfl) [3, 4, 5, 6, 7, 8, 9, 10] [0, 1, 2] rfl rfl rfl rfl (by decide) dX5_readPart_130 (fun r w1 H locs hq hw => ?_)
        obtain ⟨rfl, rfl⟩ := hq
        have hw : kW γ A ([(rr, .inr (5, [.ref h, .ref rl, .ref ab, .int mn, .int (rs.1)]))] ++ (tWd γ h hg n f (rs.2.1) (rs.2.2.1) (rs.2.2.2)) ++ (aWd γ ab a0 a1 a2 a3 a4 a5 a6 a7 (F_addCode a (kWv.getD (tw f n (rs.2.1)) 0)))) s H locs := hw
        refine W.eq (g2 := F0 m 133 ls []) rfl ?_
        refine lv_aload_n hx hb dX5_readPart_133 rfl (lv_at hl 3 rfl) ?_
        refine fg_RX5_15 hC hw 0 rfl rfl dX5_readPart_134 ?_
        refine k_V (wr := ([(rr, .inr (5, [.ref h, .ref rl, .ref ab, .int mn, .int (rs.1)]))] ++ (aWd γ ab a0 a1 a2 a3 a4 a5 a6 a7 (F_addCode a (kWv.getD (tw f n (rs.2.1)) 0))))) 0 gw_497 gw_461 gw_462 gw_2 gw_463 hd_X8_advance hC hw (c_av γ l h hg n rs f hn hok) ⟨show 1 + 1 ≤ (fr + 6) by omega, show 8 + (2 + 11) + 40 ≤ (lo + 144) by omega⟩ ⟨Nat.le_refl _, Nat.le_refl _⟩ hl.1 rfl 1 rfl rfl rfl (Nat.le_of_ble_eq_true rfl) [1, 2] [0, 3, 4, 5, 6, 7, 8, 9, 10] rfl rfl rfl rfl (by decide) dX5_readPart_137 (fun r w1 H locs hq hw => ?_)
        obtain ⟨rfl, rfl⟩ := hq
        have hw : kW γ A ([(rr, .inr (5, [.ref h, .ref rl, .ref ab, .int mn, .int (rs.1)]))] ++ (aWd γ ab a0 a1 a2 a3 a4 a5 a6 a7 (F_addCode a (kWv.getD (tw f n (rs.2.1)) 0))) ++ (tWd γ h hg n f ((av f n rs).2.1) ((av f n rs).2.2.1) ((av f n rs).2.2.2))) s H locs := hw
        refine W.eq (g2 := F0 m 140 ls []) rfl ?_
        refine lv_goto (tgt := 195) hx hb dX5_readPart_140 (by decide) ?_
        have hE : (F_part f n P L rs a) = ((av f n rs), (F_addCode a (kWv.getD (tw f n (rs.2.1)) 0))) := by unfold F_part; rw [if_neg c_183, if_pos c_184, if_neg c_188]
        have hw : kW γ A ([(rr, .inr (5, [.ref h, .ref rl, .ref ab, .int mn, .int (((F_part f n P L rs a).1).1)]))] ++ (aWd γ ab a0 a1 a2 a3 a4 a5 a6 a7 ((F_part f n P L rs a).2)) ++ (tWd γ h hg n f (((F_part f n P L rs a).1).2.1) (((F_part f n P L rs a).1).2.2.1) (((F_part f n P L rs a).1).2.2.2))) s H locs := by first | (rw [hE]; exact hw) | exact hw
        exact k_vret hC hr hlocks hw [0, 9, 10, 1, 2, 3, 4, 5, 6, 7, 8] rfl rfl ⟨rfl, rfl⟩ (Nat.le_refl _) (Nat.le_refl _) dX5_readPart_195
      · refine lv_iload hx hb dX5_readPart_56 (lv_at hl 0 rfl) ?_
        refine lv_if_ne (tgt := 81) hx hb dX5_readPart_58 (by decide) (fun _ => ?_) (fun h => absurd h (by decide))
        refine lv_iload_n hx hb dX5_readPart_81 rfl (lv_at hl 4 rfl) ?_
        refine lv_iconst (v := 5) hx hb dX5_readPart_82 (by decide) ?_
        refine lv_icmp_lt (tgt := 94) hx hb dX5_readPart_83 (by decide) (fun _ => ?_) (fun h => absurd (Int32.not_le.mp hd5) h)
        refine lv_iload_n hx hb dX5_readPart_94 rfl (lv_at hl 2 rfl) ?_
        refine lv_if_ne (tgt := 102) hx hb dX5_readPart_95 (by decide) (fun h => absurd rfl h) (fun _ => ?_)
        refine lv_iload_n hx hb dX5_readPart_98 rfl (lv_at hl 1 rfl) ?_
        refine lv_if_eq (tgt := 143) hx hb dX5_readPart_99 (by decide) (fun _ => ?_) (fun h => absurd c_188 h)
        refine lv_iload hx hb dX5_readPart_143 (lv_at hl 0 rfl) ?_
        refine lv_if_eq (tgt := 174) hx hb dX5_readPart_145 (by decide) (fun h => absurd h (by decide)) (fun _ => ?_)
        refine lv_aload_n hx hb dX5_readPart_148 rfl (lv_at hl 3 rfl) ?_
        refine fg_RX5_15 hC hw 0 rfl rfl dX5_readPart_149 ?_
        refine k_V (wr := ([(rr, .inr (5, [.ref h, .ref rl, .ref ab, .int mn, .int (rs.1)]))] ++ (aWd γ ab a0 a1 a2 a3 a4 a5 a6 a7 a))) 0 gw_497 gw_461 gw_462 gw_2 gw_463 hd_X8_advance hC hw (c_av γ l h hg n rs f hn hok) ⟨show 1 + 1 ≤ (fr + 6) by omega, show 8 + (2 + 11) + 40 ≤ (lo + 144) by omega⟩ ⟨Nat.le_refl _, Nat.le_refl _⟩ hl.1 rfl 1 rfl rfl rfl (Nat.le_of_ble_eq_true rfl) [1, 2] [0, 3, 4, 5, 6, 7, 8, 9, 10] rfl rfl rfl rfl (by decide) dX5_readPart_152 (fun r w1 H locs hq hw => ?_)
        obtain ⟨rfl, rfl⟩ := hq
        have hw : kW γ A ([(rr, .inr (5, [.ref h, .ref rl, .ref ab, .int mn, .int (rs.1)]))] ++ (aWd γ ab a0 a1 a2 a3 a4 a5 a6 a7 a) ++ (tWd γ h hg n f ((av f n rs).2.1) ((av f n rs).2.2.1) ((av f n rs).2.2.2))) s H locs := hw
        refine W.eq (g2 := F0 m 155 ls []) rfl ?_
        refine lv_aload_n hx hb dX5_readPart_155 rfl (lv_at hl 3 rfl) ?_
        refine lv_iload_n hx hb dX5_readPart_156 rfl (lv_at hl 4 rfl) ?_
        refine lv_iconst (v := 1) hx hb dX5_readPart_157 (by decide) ?_
        refine lv_iadd hx hb dX5_readPart_158 ?_
        refine lv_topi (fun x_189 ex_189 => ?_)
        obtain rfl : x_189 = dq := ex_189.trans hdq
        refine k_V (wr := []) 1 gw_610 gw_612 gp_19 gw_14 gw_613 hd_X5_readPart hC hw (hP (av f n rs) a hA) ⟨show fr + 1 ≤ (fr + 6) by omega, show 8 + (5 + 11) + lo ≤ (lo + 144) by omega⟩ ⟨Nat.le_refl _, Nat.le_refl _⟩ hl.1 rfl 0 rfl rfl rfl (Nat.le_of_ble_eq_true rfl) [0, 9, 10, 1, 2, 3, 4, 5, 6, 7, 8] [] rfl rfl rfl rfl (by decide) dX5_readPart_159 (fun r w1 H locs hq hw => ?_)
        obtain ⟨rfl, rfl⟩ := hq
        have hw : kW γ A ([(rr, .inr (5, [.ref h, .ref rl, .ref ab, .int mn, .int (((P (av f n rs) a).1).1)]))] ++ (tWd γ h hg n f (((P (av f n rs) a).1).2.1) (((P (av f n rs) a).1).2.2.1) (((P (av f n rs) a).1).2.2.2)) ++ (aWd γ ab a0 a1 a2 a3 a4 a5 a6 a7 ((P (av f n rs) a).2))) s H locs := hw
        refine W.eq (g2 := F0 m 162 ls []) rfl ?_
        refine lv_aload_n hx hb dX5_readPart_162 rfl (lv_at hl 3 rfl) ?_
        refine fg_RX5_19 hC hw 0 rfl rfl dX5_readPart_163 ?_
        refine lv_bipush (v := (-5)) hx hb dX5_readPart_166 (by decide) ?_
        refine k_V (wr := ([(rr, .inr (5, [.ref h, .ref rl, .ref ab, .int mn, .int (((P (av f n rs) a).1).1)]))] ++ (tWd γ h hg n f (((P (av f n rs) a).1).2.1) (((P (av f n rs) a).1).2.2.1) (((P (av f n rs) a).1).2.2.2)))) 1 gw_628 gw_629 gw_630 gw_13 gw_631 hd_X0_addCode hC hw (c_addCode γ l ab a0 a1 a2 a3 a4 a5 a6 a7 ((P (av f n rs) a).2) (-5) (hPo _ _ hA)) ⟨show 0 + 1 ≤ (fr + 6) by omega, show 8 + (2 + 11) + 0 ≤ (lo + 144) by omega⟩ ⟨Nat.le_refl _, Nat.le_refl _⟩ hl.1 rfl 3 rfl rfl rfl (Nat.le_of_ble_eq_true rfl) [3, 4, 5, 6, 7, 8, 9, 10] [0, 1, 2] rfl rfl rfl rfl (by decide) dX5_readPart_168 (fun r w1 H locs hq hw => ?_)
        obtain ⟨rfl, rfl⟩ := hq
        have hw : kW γ A ([(rr, .inr (5, [.ref h, .ref rl, .ref ab, .int mn, .int (((P (av f n rs) a).1).1)]))] ++ (tWd γ h hg n f (((P (av f n rs) a).1).2.1) (((P (av f n rs) a).1).2.2.1) (((P (av f n rs) a).1).2.2.2)) ++ (aWd γ ab a0 a1 a2 a3 a4 a5 a6 a7 (F_addCode ((P (av f n rs) a).2) (-5)))) s H locs := hw
        refine W.eq (g2 := F0 m 171 ls []) rfl ?_
        refine lv_goto (tgt := 195) hx hb dX5_readPart_171 (by decide) ?_
        have hE : (F_part f n P L rs a) = (((P (av f n rs) a).1), (F_addCode ((P (av f n rs) a).2) (-5))) := by unfold F_part; rw [if_neg c_183, if_pos c_184, if_pos c_188]
        have hw : kW γ A ([(rr, .inr (5, [.ref h, .ref rl, .ref ab, .int mn, .int (((F_part f n P L rs a).1).1)]))] ++ (tWd γ h hg n f (((F_part f n P L rs a).1).2.1) (((F_part f n P L rs a).1).2.2.1) (((F_part f n P L rs a).1).2.2.2)) ++ (aWd γ ab a0 a1 a2 a3 a4 a5 a6 a7 ((F_part f n P L rs a).2))) s H locs := by first | (rw [hE]; exact hw) | exact hw
        exact k_vret hC hr hlocks hw [0, 1, 2, 3, 4, 5, 6, 7, 8, 9, 10] rfl rfl ⟨rfl, rfl⟩ (Nat.le_refl _) (Nat.le_refl _) dX5_readPart_195
  · refine lv_iconst (v := 1) hx hb dX5_readPart_11 (by decide) ?_
    refine lv_goto (tgt := 16) hx hb dX5_readPart_12 (by decide) ?_
    refine lv_istore_n (lv' := [(2, .int 1), (0, .ref rr), (1, .int dp)]) hx hb dX5_readPart_16 rfl hl (by decide) rfl (fun ls hl => ?_)
    refine lv_aload_n hx hb dX5_readPart_17 rfl (lv_at hl 1 rfl) ?_
    refine fg_RX5_15 hC hw 0 rfl rfl dX5_readPart_18 ?_
    refine fg_RX5_36 hC hw 1 rfl rfl dX5_readPart_21 ?_
    refine k_VO (wr := ([(rr, .inr (5, [.ref h, .ref rl, .ref ab, .int mn, .int (rs.1)]))] ++ (tWd γ h hg n f (rs.2.1) (rs.2.2.1) (rs.2.2.2)) ++ (aWd γ ab a0 a1 a2 a3 a4 a5 a6 a7 a))) 0 gw_614 gw_615 gw_616 gw_4 gw_617 hd_X10_isFact hC hw (c_isFact γ l (tw f n (rs.2.1)) tw_lt) ⟨show 0 + 1 ≤ (fr + 6) by omega, show 8 + (1 + 11) + 0 ≤ (lo + 144) by omega⟩ ⟨Nat.le_refl _, Nat.le_refl _⟩ hl.1 rfl rfl (tw_lt) rfl (Nat.le_of_ble_eq_true rfl) [] [0, 1, 2, 3, 4, 5, 6, 7, 8, 9, 10] rfl rfl rfl rfl (by decide) dX5_readPart_24 (fun r w1 H locs hq hw => ?_)
    obtain ⟨rfl, rfl⟩ := hq
    have hw : kW γ A ([(rr, .inr (5, [.ref h, .ref rl, .ref ab, .int mn, .int (rs.1)]))] ++ (tWd γ h hg n f (rs.2.1) (rs.2.2.1) (rs.2.2.2)) ++ (aWd γ ab a0 a1 a2 a3 a4 a5 a6 a7 a)) s H locs := hw
    refine W.eq (g2 := F0 m 27 ls [.int (F_isFact (tw f n (rs.2.1)))]) rfl ?_
    refine lv_istore_n (lv' := [(3, .int (F_isFact (tw f n (rs.2.1)))), (2, .int 1), (0, .ref rr), (1, .int dp)]) hx hb dX5_readPart_27 rfl hl (by decide) rfl (fun ls hl => ?_)
    refine lv_aload_n hx hb dX5_readPart_28 rfl (lv_at hl 2 rfl) ?_
    refine fg_RX5_15 hC hw 0 rfl rfl dX5_readPart_29 ?_
    refine fg_RX5_36 hC hw 1 rfl rfl dX5_readPart_32 ?_
    refine k_word hC hw (n := 19) (by decide) gw_626 dX5_readPart_35 ?_
    refine lv_acmp_ne (rx := some (γ.2.2.2.2 (tw f n (rs.2.1)))) (ry := some (γ.2.2.2.2 19)) (tgt := 45) hx hb dX5_readPart_38 (by decide) (fun c_190 => ?_) (fun c_190 => ?_)
    · have c_190 : ¬ (tw f n (rs.2.1)) = 19 := fun h9 => c_190 ((k_weq hC (tw_lt) (by decide)).mpr h9)
      refine lv_iconst (v := 0) hx hb dX5_readPart_45 (by decide) ?_
      refine lv_istore (lv' := [(4, .int 0), (3, .int (F_isFact (tw f n (rs.2.1)))), (2, .int 1), (0, .ref rr), (1, .int dp)]) hx hb dX5_readPart_46 hl (by decide) rfl (fun ls hl => ?_)
      refine lv_iload_n hx hb dX5_readPart_48 rfl (lv_at hl 2 rfl) ?_
      refine lv_if_ne (tgt := 81) hx hb dX5_readPart_49 (by decide) (fun _ => ?_) (fun h => absurd h (by decide))
      refine lv_iload_n hx hb dX5_readPart_81 rfl (lv_at hl 4 rfl) ?_
      refine lv_iconst (v := 5) hx hb dX5_readPart_82 (by decide) ?_
      refine lv_icmp_lt (tgt := 94) hx hb dX5_readPart_83 (by decide) (fun _ => ?_) (fun h => absurd (Int32.not_le.mp hd5) h)
      refine lv_iload_n hx hb dX5_readPart_94 rfl (lv_at hl 2 rfl) ?_
      refine lv_if_ne (tgt := 102) hx hb dX5_readPart_95 (by decide) (fun _ => ?_) (fun h => absurd h (by decide))
      refine lv_aload_n hx hb dX5_readPart_102 rfl (lv_at hl 3 rfl) ?_
      refine fg_RX5_19 hC hw 0 rfl rfl dX5_readPart_103 ?_
      refine lv_iload_n hx hb dX5_readPart_106 rfl (lv_at hl 2 rfl) ?_
      refine lv_if_eq (tgt := 120) hx hb dX5_readPart_107 (by decide) (fun h => absurd h (by decide)) (fun _ => ?_)
      refine lv_aload_n hx hb dX5_readPart_110 rfl (lv_at hl 3 rfl) ?_
      refine fg_RX5_15 hC hw 0 rfl rfl dX5_readPart_111 ?_
      refine fg_RX5_238 hC hw 1 rfl rfl dX5_readPart_114 ?_
      refine lv_goto (tgt := 130) hx hb dX5_readPart_117 (by decide) ?_
      refine k_V (wr := ([(rr, .inr (5, [.ref h, .ref rl, .ref ab, .int mn, .int (rs.1)]))] ++ (tWd γ h hg n f (rs.2.1) (rs.2.2.1) (rs.2.2.2)))) 1 gw_628 gw_629 gw_630 gw_13 gw_631 hd_X0_addCode hC hw (c_addCode γ l ab a0 a1 a2 a3 a4 a5 a6 a7 a (rs.2.2.1) hA) ⟨show 0 + 1 ≤ (fr + 6) by omega, show 8 + (2 + 11) + 0 ≤ (lo + 144) by omega⟩ ⟨Nat.le_refl _, Nat.le_refl _⟩ hl.1 rfl 3 rfl rfl rfl (Nat.le_of_ble_eq_true rfl) [3, 4, 5, 6, 7, 8, 9, 10] [0, 1, 2] rfl rfl rfl rfl (by decide) dX5_readPart_130 (fun r w1 H locs hq hw => ?_)
      obtain ⟨rfl, rfl⟩ := hq
      have hw : kW γ A ([(rr, .inr (5, [.ref h, .ref rl, .ref ab, .int mn, .int (rs.1)]))] ++ (tWd γ h hg n f (rs.2.1) (rs.2.2.1) (rs.2.2.2)) ++ (aWd γ ab a0 a1 a2 a3 a4 a5 a6 a7 (F_addCode a (rs.2.2.1)))) s H locs := hw
      refine W.eq (g2 := F0 m 133 ls []) rfl ?_
      refine lv_aload_n hx hb dX5_readPart_133 rfl (lv_at hl 3 rfl) ?_
      refine fg_RX5_15 hC hw 0 rfl rfl dX5_readPart_134 ?_
      refine k_V (wr := ([(rr, .inr (5, [.ref h, .ref rl, .ref ab, .int mn, .int (rs.1)]))] ++ (aWd γ ab a0 a1 a2 a3 a4 a5 a6 a7 (F_addCode a (rs.2.2.1))))) 0 gw_497 gw_461 gw_462 gw_2 gw_463 hd_X8_advance hC hw (c_av γ l h hg n rs f hn hok) ⟨show 1 + 1 ≤ (fr + 6) by omega, show 8 + (2 + 11) + 40 ≤ (lo + 144) by omega⟩ ⟨Nat.le_refl _, Nat.le_refl _⟩ hl.1 rfl 1 rfl rfl rfl (Nat.le_of_ble_eq_true rfl) [1, 2] [0, 3, 4, 5, 6, 7, 8, 9, 10] rfl rfl rfl rfl (by decide) dX5_readPart_137 (fun r w1 H locs hq hw => ?_)
      obtain ⟨rfl, rfl⟩ := hq
      have hw : kW γ A ([(rr, .inr (5, [.ref h, .ref rl, .ref ab, .int mn, .int (rs.1)]))] ++ (aWd γ ab a0 a1 a2 a3 a4 a5 a6 a7 (F_addCode a (rs.2.2.1))) ++ (tWd γ h hg n f ((av f n rs).2.1) ((av f n rs).2.2.1) ((av f n rs).2.2.2))) s H locs := hw
      refine W.eq (g2 := F0 m 140 ls []) rfl ?_
      refine lv_goto (tgt := 195) hx hb dX5_readPart_140 (by decide) ?_
      have hE : (F_part f n P L rs a) = ((av f n rs), (F_addCode a (rs.2.2.1))) := by unfold F_part; rw [if_pos c_183, if_neg c_190]
      have hw : kW γ A ([(rr, .inr (5, [.ref h, .ref rl, .ref ab, .int mn, .int (((F_part f n P L rs a).1).1)]))] ++ (aWd γ ab a0 a1 a2 a3 a4 a5 a6 a7 ((F_part f n P L rs a).2)) ++ (tWd γ h hg n f (((F_part f n P L rs a).1).2.1) (((F_part f n P L rs a).1).2.2.1) (((F_part f n P L rs a).1).2.2.2))) s H locs := by first | (rw [hE]; exact hw) | exact hw
      exact k_vret hC hr hlocks hw [0, 9, 10, 1, 2, 3, 4, 5, 6, 7, 8] rfl rfl ⟨rfl, rfl⟩ (Nat.le_refl _) (Nat.le_refl _) dX5_readPart_195
    · have c_190 : (tw f n (rs.2.1)) = 19 := (k_weq hC (tw_lt) (by decide)).mp c_190
      refine lv_iconst (v := 1) hx hb dX5_readPart_41 (by decide) ?_
      refine lv_goto (tgt := 46) hx hb dX5_readPart_42 (by decide) ?_
      refine lv_istore (lv' := [(4, .int 1), (3, .int (F_isFact (tw f n (rs.2.1)))), (2, .int 1), (0, .ref rr), (1, .int dp)]) hx hb dX5_readPart_46 hl (by decide) rfl (fun ls hl => ?_)
      refine lv_iload_n hx hb dX5_readPart_48 rfl (lv_at hl 2 rfl) ?_
      refine lv_if_ne (tgt := 81) hx hb dX5_readPart_49 (by decide) (fun _ => ?_) (fun h => absurd h (by decide))
      refine lv_iload_n hx hb dX5_readPart_81 rfl (lv_at hl 4 rfl) ?_
      refine lv_iconst (v := 5) hx hb dX5_readPart_82 (by decide) ?_
      refine lv_icmp_lt (tgt := 94) hx hb dX5_readPart_83 (by decide) (fun _ => ?_) (fun h => absurd (Int32.not_le.mp hd5) h)
      refine lv_iload_n hx hb dX5_readPart_94 rfl (lv_at hl 2 rfl) ?_
      refine lv_if_ne (tgt := 102) hx hb dX5_readPart_95 (by decide) (fun _ => ?_) (fun h => absurd h (by decide))
      refine lv_aload_n hx hb dX5_readPart_102 rfl (lv_at hl 3 rfl) ?_
      refine fg_RX5_19 hC hw 0 rfl rfl dX5_readPart_103 ?_
      refine lv_iload_n hx hb dX5_readPart_106 rfl (lv_at hl 2 rfl) ?_
      refine lv_if_eq (tgt := 120) hx hb dX5_readPart_107 (by decide) (fun h => absurd h (by decide)) (fun _ => ?_)
      refine lv_aload_n hx hb dX5_readPart_110 rfl (lv_at hl 3 rfl) ?_
      refine fg_RX5_15 hC hw 0 rfl rfl dX5_readPart_111 ?_
      refine fg_RX5_238 hC hw 1 rfl rfl dX5_readPart_114 ?_
      refine lv_goto (tgt := 130) hx hb dX5_readPart_117 (by decide) ?_
      refine k_V (wr := ([(rr, .inr (5, [.ref h, .ref rl, .ref ab, .int mn, .int (rs.1)]))] ++ (tWd γ h hg n f (rs.2.1) (rs.2.2.1) (rs.2.2.2)))) 1 gw_628 gw_629 gw_630 gw_13 gw_631 hd_X0_addCode hC hw (c_addCode γ l ab a0 a1 a2 a3 a4 a5 a6 a7 a (rs.2.2.1) hA) ⟨show 0 + 1 ≤ (fr + 6) by omega, show 8 + (2 + 11) + 0 ≤ (lo + 144) by omega⟩ ⟨Nat.le_refl _, Nat.le_refl _⟩ hl.1 rfl 3 rfl rfl rfl (Nat.le_of_ble_eq_true rfl) [3, 4, 5, 6, 7, 8, 9, 10] [0, 1, 2] rfl rfl rfl rfl (by decide) dX5_readPart_130 (fun r w1 H locs hq hw => ?_)
      obtain ⟨rfl, rfl⟩ := hq
      have hw : kW γ A ([(rr, .inr (5, [.ref h, .ref rl, .ref ab, .int mn, .int (rs.1)]))] ++ (tWd γ h hg n f (rs.2.1) (rs.2.2.1) (rs.2.2.2)) ++ (aWd γ ab a0 a1 a2 a3 a4 a5 a6 a7 (F_addCode a (rs.2.2.1)))) s H locs := hw
      refine W.eq (g2 := F0 m 133 ls []) rfl ?_
      refine lv_aload_n hx hb dX5_readPart_133 rfl (lv_at hl 3 rfl) ?_
      refine fg_RX5_15 hC hw 0 rfl rfl dX5_readPart_134 ?_
      refine k_V (wr := ([(rr, .inr (5, [.ref h, .ref rl, .ref ab, .int mn, .int (rs.1)]))] ++ (aWd γ ab a0 a1 a2 a3 a4 a5 a6 a7 (F_addCode a (rs.2.2.1))))) 0 gw_497 gw_461 gw_462 gw_2 gw_463 hd_X8_advance hC hw (c_av γ l h hg n rs f hn hok) ⟨show 1 + 1 ≤ (fr + 6) by omega, show 8 + (2 + 11) + 40 ≤ (lo + 144) by omega⟩ ⟨Nat.le_refl _, Nat.le_refl _⟩ hl.1 rfl 1 rfl rfl rfl (Nat.le_of_ble_eq_true rfl) [1, 2] [0, 3, 4, 5, 6, 7, 8, 9, 10] rfl rfl rfl rfl (by decide) dX5_readPart_137 (fun r w1 H locs hq hw => ?_)
      obtain ⟨rfl, rfl⟩ := hq
      have hw : kW γ A ([(rr, .inr (5, [.ref h, .ref rl, .ref ab, .int mn, .int (rs.1)]))] ++ (aWd γ ab a0 a1 a2 a3 a4 a5 a6 a7 (F_addCode a (rs.2.2.1))) ++ (tWd γ h hg n f ((av f n rs).2.1) ((av f n rs).2.2.1) ((av f n rs).2.2.2))) s H locs := hw
      refine W.eq (g2 := F0 m 140 ls []) rfl ?_
      refine lv_goto (tgt := 195) hx hb dX5_readPart_140 (by decide) ?_
      have hE : (F_part f n P L rs a) = ((av f n rs), (F_addCode a (rs.2.2.1))) := by unfold F_part; rw [if_pos c_183, if_pos c_190]
      have hw : kW γ A ([(rr, .inr (5, [.ref h, .ref rl, .ref ab, .int mn, .int (((F_part f n P L rs a).1).1)]))] ++ (aWd γ ab a0 a1 a2 a3 a4 a5 a6 a7 ((F_part f n P L rs a).2)) ++ (tWd γ h hg n f (((F_part f n P L rs a).1).2.1) (((F_part f n P L rs a).1).2.2.1) (((F_part f n P L rs a).1).2.2.2))) s H locs := by first | (rw [hE]; exact hw) | exact hw
      exact k_vret hC hr hlocks hw [0, 9, 10, 1, 2, 3, 4, 5, 6, 7, 8] rfl rfl ⟨rfl, rfl⟩ (Nat.le_refl _) (Nat.le_refl _) dX5_readPart_195

theorem ok_part {f : Nat → Int32} {n : Nat} {P : rRS → aAS → rRS × aAS} {L : rRS → aAS → rRS × aAS} {rs : rRS} {a : aAS} (hPo : ∀ (rs : rRS) (a : aAS), aOK a → aOK (P rs a).2) (hLo : ∀ (rs : rRS) (a : aAS), aOK a → aOK (L rs a).2) (hA : aOK a) : aOK (F_part f n P L rs a).2 := by
  unfold F_part
  repeat' split
  all_goals first | exact hA | exact ok_addCode hA | exact ok_addCode (hPo _ _ hA) | exact hLo _ _ hA

def F_lev4 (P : rRS → aAS → rRS × aAS) (rs : rRS) (a : aAS) : rRS × aAS :=
  if (rs.1) = 0 then (((P rs a).1), ((P rs a).2)) else (rs, a)
set_option maxHeartbeats 4000000 in
set_option maxRecDepth 100000 in
theorem c_lev4 (γ : kΓ) (l : Launch) (rr : Nat) (rl : Nat) (ab : Nat) (mn : Int32) (h : Nat) (hg : Nat) (n : Nat) (rs : rRS) (f : Nat → Int32) (a0 : Nat) (a1 : Nat) (a2 : Nat) (a3 : Nat) (a4 : Nat) (a5 : Nat) (a6 : Nat) (a7 : Nat) (a : aAS) (P : rRS → aAS → rRS × aAS) (fr : Nat) (lo : Nat) (dp : Int32) (hn : n ≤ 1000) (hok : ∀ k, k < n → kok (f k) = true) (hA : aOK a) (hfr : 2 ≤ fr) (hlo : 60 ≤ lo) (hP : ∀ (rs : rRS) (a : aAS), aOK a → kM γ l yX5_readPart cX5_readPart 5 none ({ frames := fr, cells := 0, slots := 0, locals := lo } : Room) [.ref rr, .int dp] ([(rr, .inr (5, [.ref h, .ref rl, .ref ab, .int mn, .int (rs.1)]))] ++ (tWd γ h hg n f (rs.2.1) (rs.2.2.1) (rs.2.2.2)) ++ (aWd γ ab a0 a1 a2 a3 a4 a5 a6 a7 a)) (fun r w1 => r = none ∧ w1 = ([(rr, .inr (5, [.ref h, .ref rl, .ref ab, .int mn, .int (((P rs a).1).1)]))] ++ (tWd γ h hg n f (((P rs a).1).2.1) (((P rs a).1).2.2.1) (((P rs a).1).2.2.2)) ++ (aWd γ ab a0 a1 a2 a3 a4 a5 a6 a7 ((P rs a).2))))) : kM γ l yX5_readLevel cX5_readLevel 5 none ({ frames := (fr + 1), cells := 0, slots := 0, locals := (lo + 24) } : Room) [.ref rr, .int 4, .int dp] ([(rr, .inr (5, [.ref h, .ref rl, .ref ab, .int mn, .int (rs.1)]))] ++ (tWd γ h hg n f (rs.2.1) (rs.2.2.1) (rs.2.2.2)) ++ (aWd γ ab a0 a1 a2 a3 a4 a5 a6 a7 a)) (fun r w1 => r = none ∧ w1 = ([(rr, .inr (5, [.ref h, .ref rl, .ref ab, .int mn, .int (((F_lev4 P rs a).1).1)]))] ++ (tWd γ h hg n f (((F_lev4 P rs a).1).2.1) (((F_lev4 P rs a).1).2.2.1) (((F_lev4 P rs a).1).2.2.2)) ++ (aWd γ ab a0 a1 a2 a3 a4 a5 a6 a7 ((F_lev4 P rs a).2)))) := by
  refine k_ofW (by decide) (Nat.le_of_ble_eq_true rfl) ?_
  intro p9 e s m below meth c A ls hC hr hlocks hname hw hl
  have hx := hC.1
  have hb := hC.2.1
  have hl : lv_has ls 5 [(0, .ref rr), (1, .int 4), (2, .int dp)] := hl
  have hT : (a.2.2.2.2.2.2.2.1) ≤ 8 := hA.1
  have hQ : (a.2.2.2.2.2.2.2.2.1) ≤ 5 := hA.2.1
  have hE9 : (a.2.2.2.2.2.2.2.2.2.2.2.2.2.1) ≤ 1000 := hA.2.2
  refine lv_aload_n hx hb dX5_readLevel_0 rfl (lv_at hl 0 rfl) ?_
  refine fg_RX5_91 hC hw 0 rfl rfl dX5_readLevel_1 ?_
  refine lv_if_eq (tgt := 8) hx hb dX5_readLevel_4 (by decide) (fun c_192 => ?_) (fun c_192 => ?_)
  · refine lv_iload_n hx hb dX5_readLevel_8 rfl (lv_at hl 1 rfl) ?_
    refine lv_iconst (v := 4) hx hb dX5_readLevel_9 (by decide) ?_
    refine lv_icmp_lt (tgt := 19) hx hb dX5_readLevel_10 (by decide) (fun h => absurd h (by decide)) (fun _ => ?_)
    refine lv_aload_n hx hb dX5_readLevel_13 rfl (lv_at hl 0 rfl) ?_
    refine lv_iload_n hx hb dX5_readLevel_14 rfl (lv_at hl 2 rfl) ?_
    refine k_V (wr := []) 1 gw_610 gw_612 gp_19 gw_14 gw_613 hd_X5_readPart hC hw (hP rs a hA) ⟨show fr + 1 ≤ (fr + 1) by omega, show 8 + (5 + 11) + lo ≤ (lo + 24) by omega⟩ ⟨Nat.le_refl _, Nat.le_refl _⟩ hl.1 rfl 0 rfl rfl rfl (Nat.le_of_ble_eq_true rfl) [0, 1, 2, 3, 4, 5, 6, 7, 8, 9, 10] [] rfl rfl rfl rfl (by decide) dX5_readLevel_15 (fun r w1 H locs hq hw => ?_)
    obtain ⟨rfl, rfl⟩ := hq
    have hw : kW γ A ([(rr, .inr (5, [.ref h, .ref rl, .ref ab, .int mn, .int (((P rs a).1).1)]))] ++ (tWd γ h hg n f (((P rs a).1).2.1) (((P rs a).1).2.2.1) (((P rs a).1).2.2.2)) ++ (aWd γ ab a0 a1 a2 a3 a4 a5 a6 a7 ((P rs a).2))) s H locs := hw
    refine W.eq (g2 := F0 m 18 ls []) rfl ?_
    have hE : (F_lev4 P rs a) = (((P rs a).1), ((P rs a).2)) := by unfold F_lev4; rw [if_pos c_192]
    have hw : kW γ A ([(rr, .inr (5, [.ref h, .ref rl, .ref ab, .int mn, .int (((F_lev4 P rs a).1).1)]))] ++ (tWd γ h hg n f (((F_lev4 P rs a).1).2.1) (((F_lev4 P rs a).1).2.2.1) (((F_lev4 P rs a).1).2.2.2)) ++ (aWd γ ab a0 a1 a2 a3 a4 a5 a6 a7 ((F_lev4 P rs a).2))) s H locs := by first | (rw [hE]; exact hw) | exact hw
    exact k_vret hC hr hlocks hw [0, 1, 2, 3, 4, 5, 6, 7, 8, 9, 10] rfl rfl ⟨rfl, rfl⟩ (Nat.le_refl _) (Nat.le_refl _) dX5_readLevel_18
  · have hE : (F_lev4 P rs a) = (rs, a) := by unfold F_lev4; rw [if_neg c_192]
    have hw : kW γ A ([(rr, .inr (5, [.ref h, .ref rl, .ref ab, .int mn, .int (((F_lev4 P rs a).1).1)]))] ++ (tWd γ h hg n f (((F_lev4 P rs a).1).2.1) (((F_lev4 P rs a).1).2.2.1) (((F_lev4 P rs a).1).2.2.2)) ++ (aWd γ ab a0 a1 a2 a3 a4 a5 a6 a7 ((F_lev4 P rs a).2))) s s.heap [] := by first | (rw [hE]; exact hw) | exact hw
    exact k_vret hC hr hlocks hw [0, 1, 2, 3, 4, 5, 6, 7, 8, 9, 10] rfl rfl ⟨rfl, rfl⟩ (Nat.le_refl _) (Nat.le_refl _) dX5_readLevel_7

theorem ok_lev4 {P : rRS → aAS → rRS × aAS} {rs : rRS} {a : aAS} (hPo : ∀ (rs : rRS) (a : aAS), aOK a → aOK (P rs a).2) (hA : aOK a) : aOK (F_lev4 P rs a).2 := by
  unfold F_lev4
  split
  · exact hPo _ _ hA
  · exact hA


theorem dX12_rests_0 : decode cX12_rests 0 = .ok (.aload_n 0, 1) := by decide +kernel
theorem dX12_rests_1 : decode cX12_rests 1 = .ok (.iload_n 1, 1) := by decide +kernel
theorem dX12_rests_2 : decode cX12_rests 2 = .ok (.iconst 0, 1) := by decide +kernel
theorem dX12_rests_3 : decode cX12_rests 3 = .ok (.bipush 9, 2) := by decide +kernel
theorem dX12_rests_5 : decode cX12_rests 5 = .ok (.invokestatic 262, 3) := by decide +kernel
theorem dX12_rests_8 : decode cX12_rests 8 = .ok (.ifCond .eq 33, 3) := by decide +kernel
theorem dX12_rests_11 : decode cX12_rests 11 = .ok (.iload_n 2, 1) := by decide +kernel
theorem dX12_rests_12 : decode cX12_rests 12 = .ok (.iconst 0, 1) := by decide +kernel
theorem dX12_rests_13 : decode cX12_rests 13 = .ok (.bipush 9, 2) := by decide +kernel
theorem dX12_rests_15 : decode cX12_rests 15 = .ok (.invokestatic 262, 3) := by decide +kernel
theorem dX12_rests_18 : decode cX12_rests 18 = .ok (.ifCond .eq 23, 3) := by decide +kernel
theorem dX12_rests_21 : decode cX12_rests 21 = .ok (.iload_n 3, 1) := by decide +kernel
theorem dX12_rests_22 : decode cX12_rests 22 = .ok (.iconst 0, 1) := by decide +kernel
theorem dX12_rests_23 : decode cX12_rests 23 = .ok (.bipush 9, 2) := by decide +kernel
theorem dX12_rests_25 : decode cX12_rests 25 = .ok (.invokestatic 262, 3) := by decide +kernel
theorem dX12_rests_28 : decode cX12_rests 28 = .ok (.ifCond .eq 13, 3) := by decide +kernel
theorem dX12_rests_31 : decode cX12_rests 31 = .ok (.iload 4, 2) := by decide +kernel
theorem dX12_rests_33 : decode cX12_rests 33 = .ok (.iconst (-1), 1) := by decide +kernel
theorem dX12_rests_34 : decode cX12_rests 34 = .ok (.if_icmp .lt 7, 3) := by decide +kernel
theorem dX12_rests_37 : decode cX12_rests 37 = .ok (.iconst 0, 1) := by decide +kernel
theorem dX12_rests_38 : decode cX12_rests 38 = .ok (.goto 4, 3) := by decide +kernel
theorem dX12_rests_41 : decode cX12_rests 41 = .ok (.iconst 1, 1) := by decide +kernel
theorem dX12_rests_42 : decode cX12_rests 42 = .ok (.putfield 143, 3) := by decide +kernel
theorem dX12_rests_45 : decode cX12_rests 45 = .ok (.aload_n 0, 1) := by decide +kernel
theorem dX12_rests_46 : decode cX12_rests 46 = .ok (.getfield 143, 3) := by decide +kernel
theorem dX12_rests_49 : decode cX12_rests 49 = .ok (.iconst 1, 1) := by decide +kernel
theorem dX12_rests_50 : decode cX12_rests 50 = .ok (.if_icmp .ne 5, 3) := by decide +kernel
theorem dX12_rests_53 : decode cX12_rests 53 = .ok (.iconst 0, 1) := by decide +kernel
theorem dX12_rests_54 : decode cX12_rests 54 = .ok (.ireturn, 1) := by decide +kernel
theorem dX12_rests_55 : decode cX12_rests 55 = .ok (.iconst 0, 1) := by decide +kernel
theorem dX12_rests_56 : decode cX12_rests 56 = .ok (.istore 5, 2) := by decide +kernel
theorem dX12_rests_58 : decode cX12_rests 58 = .ok (.iconst 0, 1) := by decide +kernel
theorem dX12_rests_59 : decode cX12_rests 59 = .ok (.istore 6, 2) := by decide +kernel
theorem dX12_rests_61 : decode cX12_rests 61 = .ok (.iload 6, 2) := by decide +kernel
theorem dX12_rests_63 : decode cX12_rests 63 = .ok (.iconst 4, 1) := by decide +kernel
theorem dX12_rests_64 : decode cX12_rests 64 = .ok (.if_icmp .ge 87, 3) := by decide +kernel
theorem dX12_rests_67 : decode cX12_rests 67 = .ok (.iload 6, 2) := by decide +kernel
theorem dX12_rests_69 : decode cX12_rests 69 = .ok (.iconst 2, 1) := by decide +kernel
theorem dX12_rests_70 : decode cX12_rests 70 = .ok (.idiv, 1) := by decide +kernel
theorem dX12_rests_71 : decode cX12_rests 71 = .ok (.istore 7, 2) := by decide +kernel
theorem dX12_rests_73 : decode cX12_rests 73 = .ok (.iload 6, 2) := by decide +kernel
theorem dX12_rests_75 : decode cX12_rests 75 = .ok (.iconst 2, 1) := by decide +kernel
theorem dX12_rests_76 : decode cX12_rests 76 = .ok (.irem, 1) := by decide +kernel
theorem dX12_rests_77 : decode cX12_rests 77 = .ok (.istore 8, 2) := by decide +kernel
theorem dX12_rests_79 : decode cX12_rests 79 = .ok (.iload_n 1, 1) := by decide +kernel
theorem dX12_rests_80 : decode cX12_rests 80 = .ok (.iload_n 2, 1) := by decide +kernel
theorem dX12_rests_81 : decode cX12_rests 81 = .ok (.iload_n 3, 1) := by decide +kernel
theorem dX12_rests_82 : decode cX12_rests 82 = .ok (.iconst 1, 1) := by decide +kernel
theorem dX12_rests_83 : decode cX12_rests 83 = .ok (.iload 7, 2) := by decide +kernel
theorem dX12_rests_85 : decode cX12_rests 85 = .ok (.isub, 1) := by decide +kernel
theorem dX12_rests_86 : decode cX12_rests 86 = .ok (.iload 8, 2) := by decide +kernel
theorem dX12_rests_88 : decode cX12_rests 88 = .ok (.invokestatic 474, 3) := by decide +kernel
theorem dX12_rests_91 : decode cX12_rests 91 = .ok (.iload_n 1, 1) := by decide +kernel
theorem dX12_rests_92 : decode cX12_rests 92 = .ok (.iload_n 2, 1) := by decide +kernel
theorem dX12_rests_93 : decode cX12_rests 93 = .ok (.iload_n 3, 1) := by decide +kernel
theorem dX12_rests_94 : decode cX12_rests 94 = .ok (.iload 7, 2) := by decide +kernel
theorem dX12_rests_96 : decode cX12_rests 96 = .ok (.iload 8, 2) := by decide +kernel
theorem dX12_rests_98 : decode cX12_rests 98 = .ok (.invokestatic 474, 3) := by decide +kernel
theorem dX12_rests_101 : decode cX12_rests 101 = .ok (.if_icmp .gt 44, 3) := by decide +kernel
theorem dX12_rests_104 : decode cX12_rests 104 = .ok (.iload_n 1, 1) := by decide +kernel
theorem dX12_rests_105 : decode cX12_rests 105 = .ok (.iload_n 2, 1) := by decide +kernel
theorem dX12_rests_106 : decode cX12_rests 106 = .ok (.iload_n 3, 1) := by decide +kernel
theorem dX12_rests_107 : decode cX12_rests 107 = .ok (.iconst 1, 1) := by decide +kernel
theorem dX12_rests_108 : decode cX12_rests 108 = .ok (.iload 8, 2) := by decide +kernel
theorem dX12_rests_110 : decode cX12_rests 110 = .ok (.isub, 1) := by decide +kernel
theorem dX12_rests_111 : decode cX12_rests 111 = .ok (.iload 7, 2) := by decide +kernel
theorem dX12_rests_113 : decode cX12_rests 113 = .ok (.invokestatic 474, 3) := by decide +kernel
theorem dX12_rests_116 : decode cX12_rests 116 = .ok (.iload_n 1, 1) := by decide +kernel
theorem dX12_rests_117 : decode cX12_rests 117 = .ok (.iload_n 2, 1) := by decide +kernel
theorem dX12_rests_118 : decode cX12_rests 118 = .ok (.iload_n 3, 1) := by decide +kernel
theorem dX12_rests_119 : decode cX12_rests 119 = .ok (.iload 8, 2) := by decide +kernel
theorem dX12_rests_121 : decode cX12_rests 121 = .ok (.iload 7, 2) := by decide +kernel
theorem dX12_rests_123 : decode cX12_rests 123 = .ok (.invokestatic 474, 3) := by decide +kernel
theorem dX12_rests_126 : decode cX12_rests 126 = .ok (.if_icmp .le 6, 3) := by decide +kernel
theorem dX12_rests_129 : decode cX12_rests 129 = .ok (.goto 16, 3) := by decide +kernel
theorem dX12_rests_132 : decode cX12_rests 132 = .ok (.iload 5, 2) := by decide +kernel
theorem dX12_rests_134 : decode cX12_rests 134 = .ok (.iload 4, 2) := by decide +kernel
theorem dX12_rests_136 : decode cX12_rests 136 = .ok (.if_icmp .ne 6, 3) := by decide +kernel
theorem dX12_rests_139 : decode cX12_rests 139 = .ok (.iload 6, 2) := by decide +kernel
theorem dX12_rests_141 : decode cX12_rests 141 = .ok (.ireturn, 1) := by decide +kernel
theorem dX12_rests_142 : decode cX12_rests 142 = .ok (.iinc 5 1, 3) := by decide +kernel
theorem dX12_rests_145 : decode cX12_rests 145 = .ok (.iinc 6 1, 3) := by decide +kernel
theorem dX12_rests_148 : decode cX12_rests 148 = .ok (.goto (-87), 3) := by decide +kernel
theorem dX12_rests_151 : decode cX12_rests 151 = .ok (.aload_n 0, 1) := by decide +kernel
theorem dX12_rests_152 : decode cX12_rests 152 = .ok (.iload 4, 2) := by decide +kernel
theorem dX12_rests_154 : decode cX12_rests 154 = .ok (.iconst (-1), 1) := by decide +kernel
theorem dX12_rests_155 : decode cX12_rests 155 = .ok (.if_icmp .ne 7, 3) := by decide +kernel
theorem dX12_rests_158 : decode cX12_rests 158 = .ok (.iconst 0, 1) := by decide +kernel
theorem dX12_rests_159 : decode cX12_rests 159 = .ok (.goto 4, 3) := by decide +kernel
theorem dX12_rests_162 : decode cX12_rests 162 = .ok (.iconst 1, 1) := by decide +kernel
theorem dX12_rests_163 : decode cX12_rests 163 = .ok (.putfield 143, 3) := by decide +kernel
theorem dX12_rests_166 : decode cX12_rests 166 = .ok (.iload 4, 2) := by decide +kernel
theorem dX12_rests_168 : decode cX12_rests 168 = .ok (.iconst (-1), 1) := by decide +kernel
theorem dX12_rests_169 : decode cX12_rests 169 = .ok (.if_icmp .ne 8, 3) := by decide +kernel
theorem dX12_rests_172 : decode cX12_rests 172 = .ok (.iload 5, 2) := by decide +kernel
theorem dX12_rests_174 : decode cX12_rests 174 = .ok (.goto 4, 3) := by decide +kernel
theorem dX12_rests_177 : decode cX12_rests 177 = .ok (.iconst 0, 1) := by decide +kernel
theorem dX12_rests_178 : decode cX12_rests 178 = .ok (.ireturn, 1) := by decide +kernel
set_option maxHeartbeats 4000000 in
set_option maxRecDepth 100000 in
theorem mrr_0 {γ : kΓ} {l : Launch} {p : Program} {e : Env} {s : State} {m : MethodId} {below : List Frame} {meth : Method} {c : Code} {A : Nat → Prop} (z : Nat) (z2 : Nat) (z10 : Nat) (z11 : Nat) (z12 : Nat) (z13 : Nat) (z14 : Nat) (z15 : Nat) (z16 : Nat) (z17 : Nat) (z18 : Nat) (z19 : Nat) (z22 : Nat) (z23 : Nat) (z24 : Nat) (z25 : Nat) (z26 : Nat) (z27 : Nat) (z28 : Nat) (z29 : Nat) (z30 : Nat) (z31 : Nat) (z32 : Nat) (z33 : Nat) (z36 : Nat) (z37 : Nat) (z38 : Nat) (z39 : Nat) (z40 : Nat) (z41 : Nat) (z42 : Nat) (z43 : Nat) (z44 : Nat) (z45 : Nat) (z46 : Nat) (z47 : Nat) (z48 : Nat) (z55 : Nat) (z56 : Nat) (z59 : Nat) (z60 : Nat) (z61 : Nat) (n1 : Int32) (n3 : Int32) (n4 : Int32) (n5 : Int32) (n6 : Int32) (n7 : Int64) (n8 : Int32) (n9 : Int32) (n20 : Int32) (n21 : Int32) (n34 : Int32) (n35 : Int64) (n49 : Int32) (n50 : Int32) (n51 : Int32) (n52 : Int32) (n53 : Int32) (n54 : Int32) (n57 : Int32) (n58 : Int32) (n62 : Int32) (n63 : Int64) (bo : Int32) (lo : Int32) (ge : Int32) (wh : Int32) (v : Int32) (mn : Int32) (hK : kR bo lo ge wh 0 mn = some v) (hC : kC γ p s m [.ref z, .int bo, .int lo, .int ge, .int wh].toArray c cX12_rests 9 RX12 A) (hr : meth.sig.returnType = (some .int)) (hlocks : meth.locks = false) (H : Heap) (locs : List Loc) (hw : kW γ A [(z, .inr (11, [.int 0, .int n1, .ref z2, .int n3, .int n4, .int n5, .int n6, .long n7, .int n8, .int n9, .ref z10, .ref z11, .ref z12, .ref z13, .ref z14, .ref z15, .ref z16, .ref z17, .ref z18, .ref z19, .int n20, .int n21, .ref z22, .ref z23, .ref z24, .ref z25, .ref z26, .ref z27, .ref z28, .ref z29, .ref z30, .ref z31, .ref z32, .ref z33, .int n34, .long n35, .ref z36, .ref z37, .ref z38, .ref z39, .ref z40, .ref z41, .ref z42, .ref z43, .ref z44, .ref z45, .ref z46, .ref z47, .ref z48, .int n49, .int n50, .int n51, .int n52, .int n53, .int n54, .ref z55, .ref z56, .int n57, .int n58, .ref z59, .ref z60, .ref z61, .int n62, .long n63]))] s H locs) (ls : Array Slot) (hl : lv_has ls 9 [(6, .int 4), (5, .int mn), (0, .ref z), (1, .int bo), (2, .int lo), (3, .int ge), (4, .int wh)]) : W p l e ({ frames := 1, cells := 0, slots := 0, locals := 24 } : Room) s m [.ref z, .int bo, .int lo, .int ge, .int wh].toArray below meth c H locs 0 0 (MQ below (kQ γ A (fun r w1 => r = some (.int v) ∧ w1 = [(z, .inr (11, [.int 0, .int n1, .ref z2, .int n3, .int n4, .int n5, .int n6, .long n7, .int n8, .int n9, .ref z10, .ref z11, .ref z12, .ref z13, .ref z14, .ref z15, .ref z16, .ref z17, .ref z18, .ref z19, .int n20, .int n21, .ref z22, .ref z23, .ref z24, .ref z25, .ref z26, .ref z27, .ref z28, .ref z29, .ref z30, .ref z31, .ref z32, .ref z33, .int n34, .long n35, .ref z36, .ref z37, .ref z38, .ref z39, .ref z40, .ref z41, .ref z42, .ref z43, .ref z44, .ref z45, .ref z46, .ref z47, .ref z48, .int n49, .int n50, .int n51, .int n52, .int n53, .int n54, .ref z55, .ref z56, .int n57, .int n58, .ref z59, .ref z60, .ref z61, .int n62, .long n63]))])) [.ref z, .int bo, .int lo, .int ge, .int wh].toArray s 0 0 A) (F0 m 61 ls []) := by
  have hx := hC.1
  have hb := hC.2.1
  obtain ⟨hq, rfl⟩ := kR_0s hK
  refine lv_iload hx hb dX12_rests_61 (lv_at hl 0 rfl) ?_
  refine lv_iconst (v := 4) hx hb dX12_rests_63 (by decide) ?_
  refine lv_icmp_ge (tgt := 151) hx hb dX12_rests_64 (by decide) (fun _ => ?_) (fun h => absurd (by decide) h)
  refine lv_aload_n hx hb dX12_rests_151 rfl (lv_at hl 2 rfl) ?_
  refine lv_iload hx hb dX12_rests_152 (lv_at hl 6 rfl) ?_
  refine lv_iconst (v := (-1)) hx hb dX12_rests_154 (by decide) ?_
  refine lv_icmp_ne (tgt := 162) hx hb dX12_rests_155 (by decide) (fun h => absurd hq h) (fun _ => ?_)
  refine lv_iconst (v := 0) hx hb dX12_rests_158 (by decide) ?_
  refine lv_goto (tgt := 163) hx hb dX12_rests_159 (by decide) ?_
  refine fs_RX12_143 hC hw 0 rfl rfl rfl (Nat.le_of_ble_eq_true rfl) dX12_rests_163 (fun H locs hw => ?_)
  have hw : kW γ A [(z, .inr (11, [.int 0, .int n1, .ref z2, .int n3, .int n4, .int n5, .int n6, .long n7, .int n8, .int n9, .ref z10, .ref z11, .ref z12, .ref z13, .ref z14, .ref z15, .ref z16, .ref z17, .ref z18, .ref z19, .int n20, .int n21, .ref z22, .ref z23, .ref z24, .ref z25, .ref z26, .ref z27, .ref z28, .ref z29, .ref z30, .ref z31, .ref z32, .ref z33, .int n34, .long n35, .ref z36, .ref z37, .ref z38, .ref z39, .ref z40, .ref z41, .ref z42, .ref z43, .ref z44, .ref z45, .ref z46, .ref z47, .ref z48, .int n49, .int n50, .int n51, .int n52, .int n53, .int n54, .ref z55, .ref z56, .int n57, .int n58, .ref z59, .ref z60, .ref z61, .int n62, .long n63]))] s H locs := hw
  refine lv_iload hx hb dX12_rests_166 (lv_at hl 6 rfl) ?_
  refine lv_iconst (v := (-1)) hx hb dX12_rests_168 (by decide) ?_
  refine lv_icmp_ne (tgt := 177) hx hb dX12_rests_169 (by decide) (fun h => absurd hq h) (fun _ => ?_)
  refine lv_iload hx hb dX12_rests_172 (lv_at hl 1 rfl) ?_
  refine lv_goto (tgt := 178) hx hb dX12_rests_174 (by decide) ?_
  exact k_iret hC hr hlocks hw [0] rfl rfl ⟨rfl, rfl⟩ (by decide) (by decide) dX12_rests_178

set_option maxHeartbeats 4000000 in
set_option maxRecDepth 100000 in
theorem mrr_1 {γ : kΓ} {l : Launch} {p : Program} {e : Env} {s : State} {m : MethodId} {below : List Frame} {meth : Method} {c : Code} {A : Nat → Prop} (z : Nat) (z2 : Nat) (z10 : Nat) (z11 : Nat) (z12 : Nat) (z13 : Nat) (z14 : Nat) (z15 : Nat) (z16 : Nat) (z17 : Nat) (z18 : Nat) (z19 : Nat) (z22 : Nat) (z23 : Nat) (z24 : Nat) (z25 : Nat) (z26 : Nat) (z27 : Nat) (z28 : Nat) (z29 : Nat) (z30 : Nat) (z31 : Nat) (z32 : Nat) (z33 : Nat) (z36 : Nat) (z37 : Nat) (z38 : Nat) (z39 : Nat) (z40 : Nat) (z41 : Nat) (z42 : Nat) (z43 : Nat) (z44 : Nat) (z45 : Nat) (z46 : Nat) (z47 : Nat) (z48 : Nat) (z55 : Nat) (z56 : Nat) (z59 : Nat) (z60 : Nat) (z61 : Nat) (n1 : Int32) (n3 : Int32) (n4 : Int32) (n5 : Int32) (n6 : Int32) (n7 : Int64) (n8 : Int32) (n9 : Int32) (n20 : Int32) (n21 : Int32) (n34 : Int32) (n35 : Int64) (n49 : Int32) (n50 : Int32) (n51 : Int32) (n52 : Int32) (n53 : Int32) (n54 : Int32) (n57 : Int32) (n58 : Int32) (n62 : Int32) (n63 : Int64) (bo : Int32) (lo : Int32) (ge : Int32) (wh : Int32) (v : Int32) (mn : Int32) (hK : kR bo lo ge wh 1 mn = some v) (hC : kC γ p s m [.ref z, .int bo, .int lo, .int ge, .int wh].toArray c cX12_rests 9 RX12 A) (hr : meth.sig.returnType = (some .int)) (hlocks : meth.locks = false) (H : Heap) (locs : List Loc) (hw : kW γ A [(z, .inr (11, [.int 0, .int n1, .ref z2, .int n3, .int n4, .int n5, .int n6, .long n7, .int n8, .int n9, .ref z10, .ref z11, .ref z12, .ref z13, .ref z14, .ref z15, .ref z16, .ref z17, .ref z18, .ref z19, .int n20, .int n21, .ref z22, .ref z23, .ref z24, .ref z25, .ref z26, .ref z27, .ref z28, .ref z29, .ref z30, .ref z31, .ref z32, .ref z33, .int n34, .long n35, .ref z36, .ref z37, .ref z38, .ref z39, .ref z40, .ref z41, .ref z42, .ref z43, .ref z44, .ref z45, .ref z46, .ref z47, .ref z48, .int n49, .int n50, .int n51, .int n52, .int n53, .int n54, .ref z55, .ref z56, .int n57, .int n58, .ref z59, .ref z60, .ref z61, .int n62, .long n63]))] s H locs) (ls : Array Slot) (hl : lv_has ls 9 [(6, .int 3), (5, .int mn), (0, .ref z), (1, .int bo), (2, .int lo), (3, .int ge), (4, .int wh)]) : W p l e ({ frames := 1, cells := 0, slots := 0, locals := 24 } : Room) s m [.ref z, .int bo, .int lo, .int ge, .int wh].toArray below meth c H locs 0 0 (MQ below (kQ γ A (fun r w1 => r = some (.int v) ∧ w1 = [(z, .inr (11, [.int 0, .int n1, .ref z2, .int n3, .int n4, .int n5, .int n6, .long n7, .int n8, .int n9, .ref z10, .ref z11, .ref z12, .ref z13, .ref z14, .ref z15, .ref z16, .ref z17, .ref z18, .ref z19, .int n20, .int n21, .ref z22, .ref z23, .ref z24, .ref z25, .ref z26, .ref z27, .ref z28, .ref z29, .ref z30, .ref z31, .ref z32, .ref z33, .int n34, .long n35, .ref z36, .ref z37, .ref z38, .ref z39, .ref z40, .ref z41, .ref z42, .ref z43, .ref z44, .ref z45, .ref z46, .ref z47, .ref z48, .int n49, .int n50, .int n51, .int n52, .int n53, .int n54, .ref z55, .ref z56, .int n57, .int n58, .ref z59, .ref z60, .ref z61, .int n62, .long n63]))])) [.ref z, .int bo, .int lo, .int ge, .int wh].toArray s 0 0 A) (F0 m 61 ls []) := by
  have hx := hC.1
  have hb := hC.2.1
  refine lv_iload hx hb dX12_rests_61 (lv_at hl 0 rfl) ?_
  refine lv_iconst (v := 4) hx hb dX12_rests_63 (by decide) ?_
  refine lv_icmp_ge (tgt := 151) hx hb dX12_rests_64 (by decide) (fun h => absurd h (by decide)) (fun _ => ?_)
  refine lv_iload hx hb dX12_rests_67 (lv_at hl 0 rfl) ?_
  refine lv_iconst (v := 2) hx hb dX12_rests_69 (by decide) ?_
  refine lv_idiv hx hb dX12_rests_70 (by decide) ?_
  refine lv_topi (fun x_1874 ex_1874 => ?_)
  obtain rfl : x_1874 = 1 := ex_1874.trans (by decide)
  refine lv_istore (lv' := [(7, .int 1), (6, .int 3), (5, .int mn), (0, .ref z), (1, .int bo), (2, .int lo), (3, .int ge), (4, .int wh)]) hx hb dX12_rests_71 hl (by decide) rfl (fun ls hl => ?_)
  refine lv_iload hx hb dX12_rests_73 (lv_at hl 1 rfl) ?_
  refine lv_iconst (v := 2) hx hb dX12_rests_75 (by decide) ?_
  refine lv_irem hx hb dX12_rests_76 (by decide) ?_
  refine lv_topi (fun x_1875 ex_1875 => ?_)
  obtain rfl : x_1875 = 1 := ex_1875.trans (by decide)
  refine lv_istore (lv' := [(8, .int 1), (7, .int 1), (6, .int 3), (5, .int mn), (0, .ref z), (1, .int bo), (2, .int lo), (3, .int ge), (4, .int wh)]) hx hb dX12_rests_77 hl (by decide) rfl (fun ls hl => ?_)
  refine lv_iload_n hx hb dX12_rests_79 rfl (lv_at hl 5 rfl) ?_
  refine lv_iload_n hx hb dX12_rests_80 rfl (lv_at hl 6 rfl) ?_
  refine lv_iload_n hx hb dX12_rests_81 rfl (lv_at hl 7 rfl) ?_
  refine lv_iconst (v := 1) hx hb dX12_rests_82 (by decide) ?_
  refine lv_iload hx hb dX12_rests_83 (lv_at hl 1 rfl) ?_
  refine lv_isub hx hb dX12_rests_85 ?_
  refine lv_topi (fun x_1876 ex_1876 => ?_)
  obtain rfl : x_1876 = 0 := ex_1876.trans (by decide)
  refine lv_iload hx hb dX12_rests_86 (lv_at hl 0 rfl) ?_
  refine k_S (wr := [(z, .inr (11, [.int 0, .int n1, .ref z2, .int n3, .int n4, .int n5, .int n6, .long n7, .int n8, .int n9, .ref z10, .ref z11, .ref z12, .ref z13, .ref z14, .ref z15, .ref z16, .ref z17, .ref z18, .ref z19, .int n20, .int n21, .ref z22, .ref z23, .ref z24, .ref z25, .ref z26, .ref z27, .ref z28, .ref z29, .ref z30, .ref z31, .ref z32, .ref z33, .int n34, .long n35, .ref z36, .ref z37, .ref z38, .ref z39, .ref z40, .ref z41, .ref z42, .ref z43, .ref z44, .ref z45, .ref z46, .ref z47, .ref z48, .int n49, .int n50, .int n51, .int n52, .int n53, .int n54, .ref z55, .ref z56, .int n57, .int n58, .ref z59, .ref z60, .ref z61, .int n62, .long n63]))]) 5 gw_1784 gw_1785 gw_15 gw_1786 hd_X12_getsBy hC hw (c_X12_getsBy γ l bo lo ge 0 1) ⟨by decide, by decide⟩ ⟨by decide, by decide⟩ hl.1 rfl rfl (Nat.le_of_ble_eq_true rfl) [] [0] rfl rfl rfl rfl (by decide) dX12_rests_88 (fun r w1 H locs hq hw => ?_)
  obtain ⟨r9_1877, rfl, rfl, g_1878⟩ := hq
  have hw : kW γ A [(z, .inr (11, [.int 0, .int n1, .ref z2, .int n3, .int n4, .int n5, .int n6, .long n7, .int n8, .int n9, .ref z10, .ref z11, .ref z12, .ref z13, .ref z14, .ref z15, .ref z16, .ref z17, .ref z18, .ref z19, .int n20, .int n21, .ref z22, .ref z23, .ref z24, .ref z25, .ref z26, .ref z27, .ref z28, .ref z29, .ref z30, .ref z31, .ref z32, .ref z33, .int n34, .long n35, .ref z36, .ref z37, .ref z38, .ref z39, .ref z40, .ref z41, .ref z42, .ref z43, .ref z44, .ref z45, .ref z46, .ref z47, .ref z48, .int n49, .int n50, .int n51, .int n52, .int n53, .int n54, .ref z55, .ref z56, .int n57, .int n58, .ref z59, .ref z60, .ref z61, .int n62, .long n63]))] s H locs := hw
  refine W.eq (g2 := F0 m 91 ls [.int r9_1877]) rfl ?_
  refine lv_iload_n hx hb dX12_rests_91 rfl (lv_at hl 5 rfl) ?_
  refine lv_iload_n hx hb dX12_rests_92 rfl (lv_at hl 6 rfl) ?_
  refine lv_iload_n hx hb dX12_rests_93 rfl (lv_at hl 7 rfl) ?_
  refine lv_iload hx hb dX12_rests_94 (lv_at hl 1 rfl) ?_
  refine lv_iload hx hb dX12_rests_96 (lv_at hl 0 rfl) ?_
  refine k_S (wr := [(z, .inr (11, [.int 0, .int n1, .ref z2, .int n3, .int n4, .int n5, .int n6, .long n7, .int n8, .int n9, .ref z10, .ref z11, .ref z12, .ref z13, .ref z14, .ref z15, .ref z16, .ref z17, .ref z18, .ref z19, .int n20, .int n21, .ref z22, .ref z23, .ref z24, .ref z25, .ref z26, .ref z27, .ref z28, .ref z29, .ref z30, .ref z31, .ref z32, .ref z33, .int n34, .long n35, .ref z36, .ref z37, .ref z38, .ref z39, .ref z40, .ref z41, .ref z42, .ref z43, .ref z44, .ref z45, .ref z46, .ref z47, .ref z48, .int n49, .int n50, .int n51, .int n52, .int n53, .int n54, .ref z55, .ref z56, .int n57, .int n58, .ref z59, .ref z60, .ref z61, .int n62, .long n63]))]) 5 gw_1784 gw_1785 gw_15 gw_1786 hd_X12_getsBy hC hw (c_X12_getsBy γ l bo lo ge 1 1) ⟨by decide, by decide⟩ ⟨by decide, by decide⟩ hl.1 rfl rfl (Nat.le_of_ble_eq_true rfl) [] [0] rfl rfl rfl rfl (by decide) dX12_rests_98 (fun r w1 H locs hq hw => ?_)
  obtain ⟨r9_1879, rfl, rfl, g_1880⟩ := hq
  have hw : kW γ A [(z, .inr (11, [.int 0, .int n1, .ref z2, .int n3, .int n4, .int n5, .int n6, .long n7, .int n8, .int n9, .ref z10, .ref z11, .ref z12, .ref z13, .ref z14, .ref z15, .ref z16, .ref z17, .ref z18, .ref z19, .int n20, .int n21, .ref z22, .ref z23, .ref z24, .ref z25, .ref z26, .ref z27, .ref z28, .ref z29, .ref z30, .ref z31, .ref z32, .ref z33, .int n34, .long n35, .ref z36, .ref z37, .ref z38, .ref z39, .ref z40, .ref z41, .ref z42, .ref z43, .ref z44, .ref z45, .ref z46, .ref z47, .ref z48, .int n49, .int n50, .int n51, .int n52, .int n53, .int n54, .ref z55, .ref z56, .int n57, .int n58, .ref z59, .ref z60, .ref z61, .int n62, .long n63]))] s H locs := hw
  refine W.eq (g2 := F0 m 101 ls [.int r9_1879, .int r9_1877]) rfl ?_
  refine lv_icmp_gt (tgt := 145) hx hb dX12_rests_101 (by decide) (fun c101 => ?_) (fun c101 => ?_)
  · have hk1 : kcb 1 1 bo lo ge = false := kcb_f (a1 := 0) (by decide) g_1878 g_1880 (Int32.not_le.mpr c101)
    refine lv_iinc (v := 4) (lv' := [(6, .int 4), (8, .int 1), (7, .int 1), (5, .int mn), (0, .ref z), (1, .int bo), (2, .int lo), (3, .int ge), (4, .int wh)]) hx hb dX12_rests_145 hl (k := 2) rfl (by decide) (by decide) rfl (fun ls hl => ?_)
    refine lv_goto (tgt := 61) hx hb dX12_rests_148 (by decide) ?_
    exact mrr_0 z z2 z10 z11 z12 z13 z14 z15 z16 z17 z18 z19 z22 z23 z24 z25 z26 z27 z28 z29 z30 z31 z32 z33 z36 z37 z38 z39 z40 z41 z42 z43 z44 z45 z46 z47 z48 z55 z56 z59 z60 z61 n1 n3 n4 n5 n6 n7 n8 n9 n20 n21 n34 n35 n49 n50 n51 n52 n53 n54 n57 n58 n62 n63 bo lo ge wh v mn (kR_n1 hK hk1) hC hr hlocks _ _ hw _ (lv_sub hl [0, 3, 4, 5, 6, 7, 8] rfl)
  · have hk1 : kcb 1 1 bo lo ge = true := kcb_t (a1 := 0) (by decide) g_1878 g_1880 (Int32.not_lt.mp c101)
    refine lv_iload_n hx hb dX12_rests_104 rfl (lv_at hl 5 rfl) ?_
    refine lv_iload_n hx hb dX12_rests_105 rfl (lv_at hl 6 rfl) ?_
    refine lv_iload_n hx hb dX12_rests_106 rfl (lv_at hl 7 rfl) ?_
    refine lv_iconst (v := 1) hx hb dX12_rests_107 (by decide) ?_
    refine lv_iload hx hb dX12_rests_108 (lv_at hl 0 rfl) ?_
    refine lv_isub hx hb dX12_rests_110 ?_
    refine lv_topi (fun x_1881 ex_1881 => ?_)
    obtain rfl : x_1881 = 0 := ex_1881.trans (by decide)
    refine lv_iload hx hb dX12_rests_111 (lv_at hl 1 rfl) ?_
    refine k_S (wr := [(z, .inr (11, [.int 0, .int n1, .ref z2, .int n3, .int n4, .int n5, .int n6, .long n7, .int n8, .int n9, .ref z10, .ref z11, .ref z12, .ref z13, .ref z14, .ref z15, .ref z16, .ref z17, .ref z18, .ref z19, .int n20, .int n21, .ref z22, .ref z23, .ref z24, .ref z25, .ref z26, .ref z27, .ref z28, .ref z29, .ref z30, .ref z31, .ref z32, .ref z33, .int n34, .long n35, .ref z36, .ref z37, .ref z38, .ref z39, .ref z40, .ref z41, .ref z42, .ref z43, .ref z44, .ref z45, .ref z46, .ref z47, .ref z48, .int n49, .int n50, .int n51, .int n52, .int n53, .int n54, .ref z55, .ref z56, .int n57, .int n58, .ref z59, .ref z60, .ref z61, .int n62, .long n63]))]) 5 gw_1784 gw_1785 gw_15 gw_1786 hd_X12_getsBy hC hw (c_X12_getsBy γ l bo lo ge 0 1) ⟨by decide, by decide⟩ ⟨by decide, by decide⟩ hl.1 rfl rfl (Nat.le_of_ble_eq_true rfl) [] [0] rfl rfl rfl rfl (by decide) dX12_rests_113 (fun r w1 H locs hq hw => ?_)
    obtain ⟨r9_1882, rfl, rfl, g_1883⟩ := hq
    have hw : kW γ A [(z, .inr (11, [.int 0, .int n1, .ref z2, .int n3, .int n4, .int n5, .int n6, .long n7, .int n8, .int n9, .ref z10, .ref z11, .ref z12, .ref z13, .ref z14, .ref z15, .ref z16, .ref z17, .ref z18, .ref z19, .int n20, .int n21, .ref z22, .ref z23, .ref z24, .ref z25, .ref z26, .ref z27, .ref z28, .ref z29, .ref z30, .ref z31, .ref z32, .ref z33, .int n34, .long n35, .ref z36, .ref z37, .ref z38, .ref z39, .ref z40, .ref z41, .ref z42, .ref z43, .ref z44, .ref z45, .ref z46, .ref z47, .ref z48, .int n49, .int n50, .int n51, .int n52, .int n53, .int n54, .ref z55, .ref z56, .int n57, .int n58, .ref z59, .ref z60, .ref z61, .int n62, .long n63]))] s H locs := hw
    refine W.eq (g2 := F0 m 116 ls [.int r9_1882]) rfl ?_
    refine lv_iload_n hx hb dX12_rests_116 rfl (lv_at hl 5 rfl) ?_
    refine lv_iload_n hx hb dX12_rests_117 rfl (lv_at hl 6 rfl) ?_
    refine lv_iload_n hx hb dX12_rests_118 rfl (lv_at hl 7 rfl) ?_
    refine lv_iload hx hb dX12_rests_119 (lv_at hl 0 rfl) ?_
    refine lv_iload hx hb dX12_rests_121 (lv_at hl 1 rfl) ?_
    refine k_S (wr := [(z, .inr (11, [.int 0, .int n1, .ref z2, .int n3, .int n4, .int n5, .int n6, .long n7, .int n8, .int n9, .ref z10, .ref z11, .ref z12, .ref z13, .ref z14, .ref z15, .ref z16, .ref z17, .ref z18, .ref z19, .int n20, .int n21, .ref z22, .ref z23, .ref z24, .ref z25, .ref z26, .ref z27, .ref z28, .ref z29, .ref z30, .ref z31, .ref z32, .ref z33, .int n34, .long n35, .ref z36, .ref z37, .ref z38, .ref z39, .ref z40, .ref z41, .ref z42, .ref z43, .ref z44, .ref z45, .ref z46, .ref z47, .ref z48, .int n49, .int n50, .int n51, .int n52, .int n53, .int n54, .ref z55, .ref z56, .int n57, .int n58, .ref z59, .ref z60, .ref z61, .int n62, .long n63]))]) 5 gw_1784 gw_1785 gw_15 gw_1786 hd_X12_getsBy hC hw (c_X12_getsBy γ l bo lo ge 1 1) ⟨by decide, by decide⟩ ⟨by decide, by decide⟩ hl.1 rfl rfl (Nat.le_of_ble_eq_true rfl) [] [0] rfl rfl rfl rfl (by decide) dX12_rests_123 (fun r w1 H locs hq hw => ?_)
    obtain ⟨r9_1884, rfl, rfl, g_1885⟩ := hq
    have hw : kW γ A [(z, .inr (11, [.int 0, .int n1, .ref z2, .int n3, .int n4, .int n5, .int n6, .long n7, .int n8, .int n9, .ref z10, .ref z11, .ref z12, .ref z13, .ref z14, .ref z15, .ref z16, .ref z17, .ref z18, .ref z19, .int n20, .int n21, .ref z22, .ref z23, .ref z24, .ref z25, .ref z26, .ref z27, .ref z28, .ref z29, .ref z30, .ref z31, .ref z32, .ref z33, .int n34, .long n35, .ref z36, .ref z37, .ref z38, .ref z39, .ref z40, .ref z41, .ref z42, .ref z43, .ref z44, .ref z45, .ref z46, .ref z47, .ref z48, .int n49, .int n50, .int n51, .int n52, .int n53, .int n54, .ref z55, .ref z56, .int n57, .int n58, .ref z59, .ref z60, .ref z61, .int n62, .long n63]))] s H locs := hw
    refine W.eq (g2 := F0 m 126 ls [.int r9_1884, .int r9_1882]) rfl ?_
    refine lv_icmp_le (tgt := 132) hx hb dX12_rests_126 (by decide) (fun c126 => ?_) (fun c126 => ?_)
    · have hk2 : kcb 1 1 bo lo ge = true := kcb_t (a1 := 0) (by decide) g_1883 g_1885 c126
      refine lv_iload hx hb dX12_rests_132 (lv_at hl 3 rfl) ?_
      refine lv_iload hx hb dX12_rests_134 (lv_at hl 8 rfl) ?_
      refine lv_icmp_ne (tgt := 142) hx hb dX12_rests_136 (by decide) (fun c136 => ?_) (fun c136 => ?_)
      · refine lv_iinc (v := (mn + 1)) (lv' := [(5, .int (mn + 1)), (8, .int 1), (7, .int 1), (6, .int 3), (0, .ref z), (1, .int bo), (2, .int lo), (3, .int ge), (4, .int wh)]) hx hb dX12_rests_142 hl (k := 3) rfl rfl (by decide) rfl (fun ls hl => ?_)
        refine lv_iinc (v := 4) (lv' := [(6, .int 4), (5, .int (mn + 1)), (8, .int 1), (7, .int 1), (0, .ref z), (1, .int bo), (2, .int lo), (3, .int ge), (4, .int wh)]) hx hb dX12_rests_145 hl (k := 3) rfl (by decide) (by decide) rfl (fun ls hl => ?_)
        refine lv_goto (tgt := 61) hx hb dX12_rests_148 (by decide) ?_
        exact mrr_0 z z2 z10 z11 z12 z13 z14 z15 z16 z17 z18 z19 z22 z23 z24 z25 z26 z27 z28 z29 z30 z31 z32 z33 z36 z37 z38 z39 z40 z41 z42 z43 z44 z45 z46 z47 z48 z55 z56 z59 z60 z61 n1 n3 n4 n5 n6 n7 n8 n9 n20 n21 n34 n35 n49 n50 n51 n52 n53 n54 n57 n58 n62 n63 bo lo ge wh v (mn + 1) (kR_c hK hk1 hk2 c136) hC hr hlocks _ _ hw _ (lv_sub hl [0, 1, 4, 5, 6, 7, 8] rfl)
      · refine lv_iload hx hb dX12_rests_139 (lv_at hl 2 rfl) ?_
        obtain rfl : 3 = v := Option.some.inj (kR_e hK hk1 hk2 c136)
        exact k_iret hC hr hlocks hw [0] rfl rfl ⟨rfl, rfl⟩ (by decide) (by decide) dX12_rests_141
    · have hk2 : kcb 1 1 bo lo ge = false := kcb_f (a1 := 0) (by decide) g_1883 g_1885 c126
      refine lv_goto (tgt := 145) hx hb dX12_rests_129 (by decide) ?_
      refine lv_iinc (v := 4) (lv' := [(6, .int 4), (8, .int 1), (7, .int 1), (5, .int mn), (0, .ref z), (1, .int bo), (2, .int lo), (3, .int ge), (4, .int wh)]) hx hb dX12_rests_145 hl (k := 2) rfl (by decide) (by decide) rfl (fun ls hl => ?_)
      refine lv_goto (tgt := 61) hx hb dX12_rests_148 (by decide) ?_
      exact mrr_0 z z2 z10 z11 z12 z13 z14 z15 z16 z17 z18 z19 z22 z23 z24 z25 z26 z27 z28 z29 z30 z31 z32 z33 z36 z37 z38 z39 z40 z41 z42 z43 z44 z45 z46 z47 z48 z55 z56 z59 z60 z61 n1 n3 n4 n5 n6 n7 n8 n9 n20 n21 n34 n35 n49 n50 n51 n52 n53 n54 n57 n58 n62 n63 bo lo ge wh v mn (kR_n2 hK hk2) hC hr hlocks _ _ hw _ (lv_sub hl [0, 3, 4, 5, 6, 7, 8] rfl)

set_option maxHeartbeats 4000000 in
set_option maxRecDepth 100000 in
theorem mrr_2 {γ : kΓ} {l : Launch} {p : Program} {e : Env} {s : State} {m : MethodId} {below : List Frame} {meth : Method} {c : Code} {A : Nat → Prop} (z : Nat) (z2 : Nat) (z10 : Nat) (z11 : Nat) (z12 : Nat) (z13 : Nat) (z14 : Nat) (z15 : Nat) (z16 : Nat) (z17 : Nat) (z18 : Nat) (z19 : Nat) (z22 : Nat) (z23 : Nat) (z24 : Nat) (z25 : Nat) (z26 : Nat) (z27 : Nat) (z28 : Nat) (z29 : Nat) (z30 : Nat) (z31 : Nat) (z32 : Nat) (z33 : Nat) (z36 : Nat) (z37 : Nat) (z38 : Nat) (z39 : Nat) (z40 : Nat) (z41 : Nat) (z42 : Nat) (z43 : Nat) (z44 : Nat) (z45 : Nat) (z46 : Nat) (z47 : Nat) (z48 : Nat) (z55 : Nat) (z56 : Nat) (z59 : Nat) (z60 : Nat) (z61 : Nat) (n1 : Int32) (n3 : Int32) (n4 : Int32) (n5 : Int32) (n6 : Int32) (n7 : Int64) (n8 : Int32) (n9 : Int32) (n20 : Int32) (n21 : Int32) (n34 : Int32) (n35 : Int64) (n49 : Int32) (n50 : Int32) (n51 : Int32) (n52 : Int32) (n53 : Int32) (n54 : Int32) (n57 : Int32) (n58 : Int32) (n62 : Int32) (n63 : Int64) (bo : Int32) (lo : Int32) (ge : Int32) (wh : Int32) (v : Int32) (mn : Int32) (hK : kR bo lo ge wh 2 mn = some v) (hC : kC γ p s m [.ref z, .int bo, .int lo, .int ge, .int wh].toArray c cX12_rests 9 RX12 A) (hr : meth.sig.returnType = (some .int)) (hlocks : meth.locks = false) (H : Heap) (locs : List Loc) (hw : kW γ A [(z, .inr (11, [.int 0, .int n1, .ref z2, .int n3, .int n4, .int n5, .int n6, .long n7, .int n8, .int n9, .ref z10, .ref z11, .ref z12, .ref z13, .ref z14, .ref z15, .ref z16, .ref z17, .ref z18, .ref z19, .int n20, .int n21, .ref z22, .ref z23, .ref z24, .ref z25, .ref z26, .ref z27, .ref z28, .ref z29, .ref z30, .ref z31, .ref z32, .ref z33, .int n34, .long n35, .ref z36, .ref z37, .ref z38, .ref z39, .ref z40, .ref z41, .ref z42, .ref z43, .ref z44, .ref z45, .ref z46, .ref z47, .ref z48, .int n49, .int n50, .int n51, .int n52, .int n53, .int n54, .ref z55, .ref z56, .int n57, .int n58, .ref z59, .ref z60, .ref z61, .int n62, .long n63]))] s H locs) (ls : Array Slot) (hl : lv_has ls 9 [(6, .int 2), (5, .int mn), (0, .ref z), (1, .int bo), (2, .int lo), (3, .int ge), (4, .int wh)]) : W p l e ({ frames := 1, cells := 0, slots := 0, locals := 24 } : Room) s m [.ref z, .int bo, .int lo, .int ge, .int wh].toArray below meth c H locs 0 0 (MQ below (kQ γ A (fun r w1 => r = some (.int v) ∧ w1 = [(z, .inr (11, [.int 0, .int n1, .ref z2, .int n3, .int n4, .int n5, .int n6, .long n7, .int n8, .int n9, .ref z10, .ref z11, .ref z12, .ref z13, .ref z14, .ref z15, .ref z16, .ref z17, .ref z18, .ref z19, .int n20, .int n21, .ref z22, .ref z23, .ref z24, .ref z25, .ref z26, .ref z27, .ref z28, .ref z29, .ref z30, .ref z31, .ref z32, .ref z33, .int n34, .long n35, .ref z36, .ref z37, .ref z38, .ref z39, .ref z40, .ref z41, .ref z42, .ref z43, .ref z44, .ref z45, .ref z46, .ref z47, .ref z48, .int n49, .int n50, .int n51, .int n52, .int n53, .int n54, .ref z55, .ref z56, .int n57, .int n58, .ref z59, .ref z60, .ref z61, .int n62, .long n63]))])) [.ref z, .int bo, .int lo, .int ge, .int wh].toArray s 0 0 A) (F0 m 61 ls []) := by
  have hx := hC.1
  have hb := hC.2.1
  refine lv_iload hx hb dX12_rests_61 (lv_at hl 0 rfl) ?_
  refine lv_iconst (v := 4) hx hb dX12_rests_63 (by decide) ?_
  refine lv_icmp_ge (tgt := 151) hx hb dX12_rests_64 (by decide) (fun h => absurd h (by decide)) (fun _ => ?_)
  refine lv_iload hx hb dX12_rests_67 (lv_at hl 0 rfl) ?_
  refine lv_iconst (v := 2) hx hb dX12_rests_69 (by decide) ?_
  refine lv_idiv hx hb dX12_rests_70 (by decide) ?_
  refine lv_topi (fun x_1886 ex_1886 => ?_)
  obtain rfl : x_1886 = 1 := ex_1886.trans (by decide)
  refine lv_istore (lv' := [(7, .int 1), (6, .int 2), (5, .int mn), (0, .ref z), (1, .int bo), (2, .int lo), (3, .int ge), (4, .int wh)]) hx hb dX12_rests_71 hl (by decide) rfl (fun ls hl => ?_)
  refine lv_iload hx hb dX12_rests_73 (lv_at hl 1 rfl) ?_
  refine lv_iconst (v := 2) hx hb dX12_rests_75 (by decide) ?_
  refine lv_irem hx hb dX12_rests_76 (by decide) ?_
  refine lv_topi (fun x_1887 ex_1887 => ?_)
  obtain rfl : x_1887 = 0 := ex_1887.trans (by decide)
  refine lv_istore (lv' := [(8, .int 0), (7, .int 1), (6, .int 2), (5, .int mn), (0, .ref z), (1, .int bo), (2, .int lo), (3, .int ge), (4, .int wh)]) hx hb dX12_rests_77 hl (by decide) rfl (fun ls hl => ?_)
  refine lv_iload_n hx hb dX12_rests_79 rfl (lv_at hl 5 rfl) ?_
  refine lv_iload_n hx hb dX12_rests_80 rfl (lv_at hl 6 rfl) ?_
  refine lv_iload_n hx hb dX12_rests_81 rfl (lv_at hl 7 rfl) ?_
  refine lv_iconst (v := 1) hx hb dX12_rests_82 (by decide) ?_
  refine lv_iload hx hb dX12_rests_83 (lv_at hl 1 rfl) ?_
  refine lv_isub hx hb dX12_rests_85 ?_
  refine lv_topi (fun x_1888 ex_1888 => ?_)
  obtain rfl : x_1888 = 0 := ex_1888.trans (by decide)
  refine lv_iload hx hb dX12_rests_86 (lv_at hl 0 rfl) ?_
  refine k_S (wr := [(z, .inr (11, [.int 0, .int n1, .ref z2, .int n3, .int n4, .int n5, .int n6, .long n7, .int n8, .int n9, .ref z10, .ref z11, .ref z12, .ref z13, .ref z14, .ref z15, .ref z16, .ref z17, .ref z18, .ref z19, .int n20, .int n21, .ref z22, .ref z23, .ref z24, .ref z25, .ref z26, .ref z27, .ref z28, .ref z29, .ref z30, .ref z31, .ref z32, .ref z33, .int n34, .long n35, .ref z36, .ref z37, .ref z38, .ref z39, .ref z40, .ref z41, .ref z42, .ref z43, .ref z44, .ref z45, .ref z46, .ref z47, .ref z48, .int n49, .int n50, .int n51, .int n52, .int n53, .int n54, .ref z55, .ref z56, .int n57, .int n58, .ref z59, .ref z60, .ref z61, .int n62, .long n63]))]) 5 gw_1784 gw_1785 gw_15 gw_1786 hd_X12_getsBy hC hw (c_X12_getsBy γ l bo lo ge 0 0) ⟨by decide, by decide⟩ ⟨by decide, by decide⟩ hl.1 rfl rfl (Nat.le_of_ble_eq_true rfl) [] [0] rfl rfl rfl rfl (by decide) dX12_rests_88 (fun r w1 H locs hq hw => ?_)
  obtain ⟨r9_1889, rfl, rfl, g_1890⟩ := hq
  have hw : kW γ A [(z, .inr (11, [.int 0, .int n1, .ref z2, .int n3, .int n4, .int n5, .int n6, .long n7, .int n8, .int n9, .ref z10, .ref z11, .ref z12, .ref z13, .ref z14, .ref z15, .ref z16, .ref z17, .ref z18, .ref z19, .int n20, .int n21, .ref z22, .ref z23, .ref z24, .ref z25, .ref z26, .ref z27, .ref z28, .ref z29, .ref z30, .ref z31, .ref z32, .ref z33, .int n34, .long n35, .ref z36, .ref z37, .ref z38, .ref z39, .ref z40, .ref z41, .ref z42, .ref z43, .ref z44, .ref z45, .ref z46, .ref z47, .ref z48, .int n49, .int n50, .int n51, .int n52, .int n53, .int n54, .ref z55, .ref z56, .int n57, .int n58, .ref z59, .ref z60, .ref z61, .int n62, .long n63]))] s H locs := hw
  refine W.eq (g2 := F0 m 91 ls [.int r9_1889]) rfl ?_
  refine lv_iload_n hx hb dX12_rests_91 rfl (lv_at hl 5 rfl) ?_
  refine lv_iload_n hx hb dX12_rests_92 rfl (lv_at hl 6 rfl) ?_
  refine lv_iload_n hx hb dX12_rests_93 rfl (lv_at hl 7 rfl) ?_
  refine lv_iload hx hb dX12_rests_94 (lv_at hl 1 rfl) ?_
  refine lv_iload hx hb dX12_rests_96 (lv_at hl 0 rfl) ?_
  refine k_S (wr := [(z, .inr (11, [.int 0, .int n1, .ref z2, .int n3, .int n4, .int n5, .int n6, .long n7, .int n8, .int n9, .ref z10, .ref z11, .ref z12, .ref z13, .ref z14, .ref z15, .ref z16, .ref z17, .ref z18, .ref z19, .int n20, .int n21, .ref z22, .ref z23, .ref z24, .ref z25, .ref z26, .ref z27, .ref z28, .ref z29, .ref z30, .ref z31, .ref z32, .ref z33, .int n34, .long n35, .ref z36, .ref z37, .ref z38, .ref z39, .ref z40, .ref z41, .ref z42, .ref z43, .ref z44, .ref z45, .ref z46, .ref z47, .ref z48, .int n49, .int n50, .int n51, .int n52, .int n53, .int n54, .ref z55, .ref z56, .int n57, .int n58, .ref z59, .ref z60, .ref z61, .int n62, .long n63]))]) 5 gw_1784 gw_1785 gw_15 gw_1786 hd_X12_getsBy hC hw (c_X12_getsBy γ l bo lo ge 1 0) ⟨by decide, by decide⟩ ⟨by decide, by decide⟩ hl.1 rfl rfl (Nat.le_of_ble_eq_true rfl) [] [0] rfl rfl rfl rfl (by decide) dX12_rests_98 (fun r w1 H locs hq hw => ?_)
  obtain ⟨r9_1891, rfl, rfl, g_1892⟩ := hq
  have hw : kW γ A [(z, .inr (11, [.int 0, .int n1, .ref z2, .int n3, .int n4, .int n5, .int n6, .long n7, .int n8, .int n9, .ref z10, .ref z11, .ref z12, .ref z13, .ref z14, .ref z15, .ref z16, .ref z17, .ref z18, .ref z19, .int n20, .int n21, .ref z22, .ref z23, .ref z24, .ref z25, .ref z26, .ref z27, .ref z28, .ref z29, .ref z30, .ref z31, .ref z32, .ref z33, .int n34, .long n35, .ref z36, .ref z37, .ref z38, .ref z39, .ref z40, .ref z41, .ref z42, .ref z43, .ref z44, .ref z45, .ref z46, .ref z47, .ref z48, .int n49, .int n50, .int n51, .int n52, .int n53, .int n54, .ref z55, .ref z56, .int n57, .int n58, .ref z59, .ref z60, .ref z61, .int n62, .long n63]))] s H locs := hw
  refine W.eq (g2 := F0 m 101 ls [.int r9_1891, .int r9_1889]) rfl ?_
  refine lv_icmp_gt (tgt := 145) hx hb dX12_rests_101 (by decide) (fun c101 => ?_) (fun c101 => ?_)
  · have hk1 : kcb 1 0 bo lo ge = false := kcb_f (a1 := 0) (by decide) g_1890 g_1892 (Int32.not_le.mpr c101)
    refine lv_iinc (v := 3) (lv' := [(6, .int 3), (8, .int 0), (7, .int 1), (5, .int mn), (0, .ref z), (1, .int bo), (2, .int lo), (3, .int ge), (4, .int wh)]) hx hb dX12_rests_145 hl (k := 2) rfl (by decide) (by decide) rfl (fun ls hl => ?_)
    refine lv_goto (tgt := 61) hx hb dX12_rests_148 (by decide) ?_
    exact mrr_1 z z2 z10 z11 z12 z13 z14 z15 z16 z17 z18 z19 z22 z23 z24 z25 z26 z27 z28 z29 z30 z31 z32 z33 z36 z37 z38 z39 z40 z41 z42 z43 z44 z45 z46 z47 z48 z55 z56 z59 z60 z61 n1 n3 n4 n5 n6 n7 n8 n9 n20 n21 n34 n35 n49 n50 n51 n52 n53 n54 n57 n58 n62 n63 bo lo ge wh v mn (kR_n1 hK hk1) hC hr hlocks _ _ hw _ (lv_sub hl [0, 3, 4, 5, 6, 7, 8] rfl)
  · have hk1 : kcb 1 0 bo lo ge = true := kcb_t (a1 := 0) (by decide) g_1890 g_1892 (Int32.not_lt.mp c101)
    refine lv_iload_n hx hb dX12_rests_104 rfl (lv_at hl 5 rfl) ?_
    refine lv_iload_n hx hb dX12_rests_105 rfl (lv_at hl 6 rfl) ?_
    refine lv_iload_n hx hb dX12_rests_106 rfl (lv_at hl 7 rfl) ?_
    refine lv_iconst (v := 1) hx hb dX12_rests_107 (by decide) ?_
    refine lv_iload hx hb dX12_rests_108 (lv_at hl 0 rfl) ?_
    refine lv_isub hx hb dX12_rests_110 ?_
    refine lv_topi (fun x_1893 ex_1893 => ?_)
    obtain rfl : x_1893 = 1 := ex_1893.trans (by decide)
    refine lv_iload hx hb dX12_rests_111 (lv_at hl 1 rfl) ?_
    refine k_S (wr := [(z, .inr (11, [.int 0, .int n1, .ref z2, .int n3, .int n4, .int n5, .int n6, .long n7, .int n8, .int n9, .ref z10, .ref z11, .ref z12, .ref z13, .ref z14, .ref z15, .ref z16, .ref z17, .ref z18, .ref z19, .int n20, .int n21, .ref z22, .ref z23, .ref z24, .ref z25, .ref z26, .ref z27, .ref z28, .ref z29, .ref z30, .ref z31, .ref z32, .ref z33, .int n34, .long n35, .ref z36, .ref z37, .ref z38, .ref z39, .ref z40, .ref z41, .ref z42, .ref z43, .ref z44, .ref z45, .ref z46, .ref z47, .ref z48, .int n49, .int n50, .int n51, .int n52, .int n53, .int n54, .ref z55, .ref z56, .int n57, .int n58, .ref z59, .ref z60, .ref z61, .int n62, .long n63]))]) 5 gw_1784 gw_1785 gw_15 gw_1786 hd_X12_getsBy hC hw (c_X12_getsBy γ l bo lo ge 1 1) ⟨by decide, by decide⟩ ⟨by decide, by decide⟩ hl.1 rfl rfl (Nat.le_of_ble_eq_true rfl) [] [0] rfl rfl rfl rfl (by decide) dX12_rests_113 (fun r w1 H locs hq hw => ?_)
    obtain ⟨r9_1894, rfl, rfl, g_1895⟩ := hq
    have hw : kW γ A [(z, .inr (11, [.int 0, .int n1, .ref z2, .int n3, .int n4, .int n5, .int n6, .long n7, .int n8, .int n9, .ref z10, .ref z11, .ref z12, .ref z13, .ref z14, .ref z15, .ref z16, .ref z17, .ref z18, .ref z19, .int n20, .int n21, .ref z22, .ref z23, .ref z24, .ref z25, .ref z26, .ref z27, .ref z28, .ref z29, .ref z30, .ref z31, .ref z32, .ref z33, .int n34, .long n35, .ref z36, .ref z37, .ref z38, .ref z39, .ref z40, .ref z41, .ref z42, .ref z43, .ref z44, .ref z45, .ref z46, .ref z47, .ref z48, .int n49, .int n50, .int n51, .int n52, .int n53, .int n54, .ref z55, .ref z56, .int n57, .int n58, .ref z59, .ref z60, .ref z61, .int n62, .long n63]))] s H locs := hw
    refine W.eq (g2 := F0 m 116 ls [.int r9_1894]) rfl ?_
    refine lv_iload_n hx hb dX12_rests_116 rfl (lv_at hl 5 rfl) ?_
    refine lv_iload_n hx hb dX12_rests_117 rfl (lv_at hl 6 rfl) ?_
    refine lv_iload_n hx hb dX12_rests_118 rfl (lv_at hl 7 rfl) ?_
    refine lv_iload hx hb dX12_rests_119 (lv_at hl 0 rfl) ?_
    refine lv_iload hx hb dX12_rests_121 (lv_at hl 1 rfl) ?_
    refine k_S (wr := [(z, .inr (11, [.int 0, .int n1, .ref z2, .int n3, .int n4, .int n5, .int n6, .long n7, .int n8, .int n9, .ref z10, .ref z11, .ref z12, .ref z13, .ref z14, .ref z15, .ref z16, .ref z17, .ref z18, .ref z19, .int n20, .int n21, .ref z22, .ref z23, .ref z24, .ref z25, .ref z26, .ref z27, .ref z28, .ref z29, .ref z30, .ref z31, .ref z32, .ref z33, .int n34, .long n35, .ref z36, .ref z37, .ref z38, .ref z39, .ref z40, .ref z41, .ref z42, .ref z43, .ref z44, .ref z45, .ref z46, .ref z47, .ref z48, .int n49, .int n50, .int n51, .int n52, .int n53, .int n54, .ref z55, .ref z56, .int n57, .int n58, .ref z59, .ref z60, .ref z61, .int n62, .long n63]))]) 5 gw_1784 gw_1785 gw_15 gw_1786 hd_X12_getsBy hC hw (c_X12_getsBy γ l bo lo ge 0 1) ⟨by decide, by decide⟩ ⟨by decide, by decide⟩ hl.1 rfl rfl (Nat.le_of_ble_eq_true rfl) [] [0] rfl rfl rfl rfl (by decide) dX12_rests_123 (fun r w1 H locs hq hw => ?_)
    obtain ⟨r9_1896, rfl, rfl, g_1897⟩ := hq
    have hw : kW γ A [(z, .inr (11, [.int 0, .int n1, .ref z2, .int n3, .int n4, .int n5, .int n6, .long n7, .int n8, .int n9, .ref z10, .ref z11, .ref z12, .ref z13, .ref z14, .ref z15, .ref z16, .ref z17, .ref z18, .ref z19, .int n20, .int n21, .ref z22, .ref z23, .ref z24, .ref z25, .ref z26, .ref z27, .ref z28, .ref z29, .ref z30, .ref z31, .ref z32, .ref z33, .int n34, .long n35, .ref z36, .ref z37, .ref z38, .ref z39, .ref z40, .ref z41, .ref z42, .ref z43, .ref z44, .ref z45, .ref z46, .ref z47, .ref z48, .int n49, .int n50, .int n51, .int n52, .int n53, .int n54, .ref z55, .ref z56, .int n57, .int n58, .ref z59, .ref z60, .ref z61, .int n62, .long n63]))] s H locs := hw
    refine W.eq (g2 := F0 m 126 ls [.int r9_1896, .int r9_1894]) rfl ?_
    refine lv_icmp_le (tgt := 132) hx hb dX12_rests_126 (by decide) (fun c126 => ?_) (fun c126 => ?_)
    · have hk2 : kcb 0 1 bo lo ge = true := kcb_t (a1 := 1) (by decide) g_1895 g_1897 c126
      refine lv_iload hx hb dX12_rests_132 (lv_at hl 3 rfl) ?_
      refine lv_iload hx hb dX12_rests_134 (lv_at hl 8 rfl) ?_
      refine lv_icmp_ne (tgt := 142) hx hb dX12_rests_136 (by decide) (fun c136 => ?_) (fun c136 => ?_)
      · refine lv_iinc (v := (mn + 1)) (lv' := [(5, .int (mn + 1)), (8, .int 0), (7, .int 1), (6, .int 2), (0, .ref z), (1, .int bo), (2, .int lo), (3, .int ge), (4, .int wh)]) hx hb dX12_rests_142 hl (k := 3) rfl rfl (by decide) rfl (fun ls hl => ?_)
        refine lv_iinc (v := 3) (lv' := [(6, .int 3), (5, .int (mn + 1)), (8, .int 0), (7, .int 1), (0, .ref z), (1, .int bo), (2, .int lo), (3, .int ge), (4, .int wh)]) hx hb dX12_rests_145 hl (k := 3) rfl (by decide) (by decide) rfl (fun ls hl => ?_)
        refine lv_goto (tgt := 61) hx hb dX12_rests_148 (by decide) ?_
        exact mrr_1 z z2 z10 z11 z12 z13 z14 z15 z16 z17 z18 z19 z22 z23 z24 z25 z26 z27 z28 z29 z30 z31 z32 z33 z36 z37 z38 z39 z40 z41 z42 z43 z44 z45 z46 z47 z48 z55 z56 z59 z60 z61 n1 n3 n4 n5 n6 n7 n8 n9 n20 n21 n34 n35 n49 n50 n51 n52 n53 n54 n57 n58 n62 n63 bo lo ge wh v (mn + 1) (kR_c hK hk1 hk2 c136) hC hr hlocks _ _ hw _ (lv_sub hl [0, 1, 4, 5, 6, 7, 8] rfl)
      · refine lv_iload hx hb dX12_rests_139 (lv_at hl 2 rfl) ?_
        obtain rfl : 2 = v := Option.some.inj (kR_e hK hk1 hk2 c136)
        exact k_iret hC hr hlocks hw [0] rfl rfl ⟨rfl, rfl⟩ (by decide) (by decide) dX12_rests_141
    · have hk2 : kcb 0 1 bo lo ge = false := kcb_f (a1 := 1) (by decide) g_1895 g_1897 c126
      refine lv_goto (tgt := 145) hx hb dX12_rests_129 (by decide) ?_
      refine lv_iinc (v := 3) (lv' := [(6, .int 3), (8, .int 0), (7, .int 1), (5, .int mn), (0, .ref z), (1, .int bo), (2, .int lo), (3, .int ge), (4, .int wh)]) hx hb dX12_rests_145 hl (k := 2) rfl (by decide) (by decide) rfl (fun ls hl => ?_)
      refine lv_goto (tgt := 61) hx hb dX12_rests_148 (by decide) ?_
      exact mrr_1 z z2 z10 z11 z12 z13 z14 z15 z16 z17 z18 z19 z22 z23 z24 z25 z26 z27 z28 z29 z30 z31 z32 z33 z36 z37 z38 z39 z40 z41 z42 z43 z44 z45 z46 z47 z48 z55 z56 z59 z60 z61 n1 n3 n4 n5 n6 n7 n8 n9 n20 n21 n34 n35 n49 n50 n51 n52 n53 n54 n57 n58 n62 n63 bo lo ge wh v mn (kR_n2 hK hk2) hC hr hlocks _ _ hw _ (lv_sub hl [0, 3, 4, 5, 6, 7, 8] rfl)

set_option maxHeartbeats 4000000 in
set_option maxRecDepth 100000 in
theorem mrr_3 {γ : kΓ} {l : Launch} {p : Program} {e : Env} {s : State} {m : MethodId} {below : List Frame} {meth : Method} {c : Code} {A : Nat → Prop} (z : Nat) (z2 : Nat) (z10 : Nat) (z11 : Nat) (z12 : Nat) (z13 : Nat) (z14 : Nat) (z15 : Nat) (z16 : Nat) (z17 : Nat) (z18 : Nat) (z19 : Nat) (z22 : Nat) (z23 : Nat) (z24 : Nat) (z25 : Nat) (z26 : Nat) (z27 : Nat) (z28 : Nat) (z29 : Nat) (z30 : Nat) (z31 : Nat) (z32 : Nat) (z33 : Nat) (z36 : Nat) (z37 : Nat) (z38 : Nat) (z39 : Nat) (z40 : Nat) (z41 : Nat) (z42 : Nat) (z43 : Nat) (z44 : Nat) (z45 : Nat) (z46 : Nat) (z47 : Nat) (z48 : Nat) (z55 : Nat) (z56 : Nat) (z59 : Nat) (z60 : Nat) (z61 : Nat) (n1 : Int32) (n3 : Int32) (n4 : Int32) (n5 : Int32) (n6 : Int32) (n7 : Int64) (n8 : Int32) (n9 : Int32) (n20 : Int32) (n21 : Int32) (n34 : Int32) (n35 : Int64) (n49 : Int32) (n50 : Int32) (n51 : Int32) (n52 : Int32) (n53 : Int32) (n54 : Int32) (n57 : Int32) (n58 : Int32) (n62 : Int32) (n63 : Int64) (bo : Int32) (lo : Int32) (ge : Int32) (wh : Int32) (v : Int32) (mn : Int32) (hK : kR bo lo ge wh 3 mn = some v) (hC : kC γ p s m [.ref z, .int bo, .int lo, .int ge, .int wh].toArray c cX12_rests 9 RX12 A) (hr : meth.sig.returnType = (some .int)) (hlocks : meth.locks = false) (H : Heap) (locs : List Loc) (hw : kW γ A [(z, .inr (11, [.int 0, .int n1, .ref z2, .int n3, .int n4, .int n5, .int n6, .long n7, .int n8, .int n9, .ref z10, .ref z11, .ref z12, .ref z13, .ref z14, .ref z15, .ref z16, .ref z17, .ref z18, .ref z19, .int n20, .int n21, .ref z22, .ref z23, .ref z24, .ref z25, .ref z26, .ref z27, .ref z28, .ref z29, .ref z30, .ref z31, .ref z32, .ref z33, .int n34, .long n35, .ref z36, .ref z37, .ref z38, .ref z39, .ref z40, .ref z41, .ref z42, .ref z43, .ref z44, .ref z45, .ref z46, .ref z47, .ref z48, .int n49, .int n50, .int n51, .int n52, .int n53, .int n54, .ref z55, .ref z56, .int n57, .int n58, .ref z59, .ref z60, .ref z61, .int n62, .long n63]))] s H locs) (ls : Array Slot) (hl : lv_has ls 9 [(6, .int 1), (5, .int mn), (0, .ref z), (1, .int bo), (2, .int lo), (3, .int ge), (4, .int wh)]) : W p l e ({ frames := 1, cells := 0, slots := 0, locals := 24 } : Room) s m [.ref z, .int bo, .int lo, .int ge, .int wh].toArray below meth c H locs 0 0 (MQ below (kQ γ A (fun r w1 => r = some (.int v) ∧ w1 = [(z, .inr (11, [.int 0, .int n1, .ref z2, .int n3, .int n4, .int n5, .int n6, .long n7, .int n8, .int n9, .ref z10, .ref z11, .ref z12, .ref z13, .ref z14, .ref z15, .ref z16, .ref z17, .ref z18, .ref z19, .int n20, .int n21, .ref z22, .ref z23, .ref z24, .ref z25, .ref z26, .ref z27, .ref z28, .ref z29, .ref z30, .ref z31, .ref z32, .ref z33, .int n34, .long n35, .ref z36, .ref z37, .ref z38, .ref z39, .ref z40, .ref z41, .ref z42, .ref z43, .ref z44, .ref z45, .ref z46, .ref z47, .ref z48, .int n49, .int n50, .int n51, .int n52, .int n53, .int n54, .ref z55, .ref z56, .int n57, .int n58, .ref z59, .ref z60, .ref z61, .int n62, .long n63]))])) [.ref z, .int bo, .int lo, .int ge, .int wh].toArray s 0 0 A) (F0 m 61 ls []) := by
  have hx := hC.1
  have hb := hC.2.1
  refine lv_iload hx hb dX12_rests_61 (lv_at hl 0 rfl) ?_
  refine lv_iconst (v := 4) hx hb dX12_rests_63 (by decide) ?_
  refine lv_icmp_ge (tgt := 151) hx hb dX12_rests_64 (by decide) (fun h => absurd h (by decide)) (fun _ => ?_)
  refine lv_iload hx hb dX12_rests_67 (lv_at hl 0 rfl) ?_
  refine lv_iconst (v := 2) hx hb dX12_rests_69 (by decide) ?_
  refine lv_idiv hx hb dX12_rests_70 (by decide) ?_
  refine lv_topi (fun x_1898 ex_1898 => ?_)
  obtain rfl : x_1898 = 0 := ex_1898.trans (by decide)
  refine lv_istore (lv' := [(7, .int 0), (6, .int 1), (5, .int mn), (0, .ref z), (1, .int bo), (2, .int lo), (3, .int ge), (4, .int wh)]) hx hb dX12_rests_71 hl (by decide) rfl (fun ls hl => ?_)
  refine lv_iload hx hb dX12_rests_73 (lv_at hl 1 rfl) ?_
  refine lv_iconst (v := 2) hx hb dX12_rests_75 (by decide) ?_
  refine lv_irem hx hb dX12_rests_76 (by decide) ?_
  refine lv_topi (fun x_1899 ex_1899 => ?_)
  obtain rfl : x_1899 = 1 := ex_1899.trans (by decide)
  refine lv_istore (lv' := [(8, .int 1), (7, .int 0), (6, .int 1), (5, .int mn), (0, .ref z), (1, .int bo), (2, .int lo), (3, .int ge), (4, .int wh)]) hx hb dX12_rests_77 hl (by decide) rfl (fun ls hl => ?_)
  refine lv_iload_n hx hb dX12_rests_79 rfl (lv_at hl 5 rfl) ?_
  refine lv_iload_n hx hb dX12_rests_80 rfl (lv_at hl 6 rfl) ?_
  refine lv_iload_n hx hb dX12_rests_81 rfl (lv_at hl 7 rfl) ?_
  refine lv_iconst (v := 1) hx hb dX12_rests_82 (by decide) ?_
  refine lv_iload hx hb dX12_rests_83 (lv_at hl 1 rfl) ?_
  refine lv_isub hx hb dX12_rests_85 ?_
  refine lv_topi (fun x_1900 ex_1900 => ?_)
  obtain rfl : x_1900 = 1 := ex_1900.trans (by decide)
  refine lv_iload hx hb dX12_rests_86 (lv_at hl 0 rfl) ?_
  refine k_S (wr := [(z, .inr (11, [.int 0, .int n1, .ref z2, .int n3, .int n4, .int n5, .int n6, .long n7, .int n8, .int n9, .ref z10, .ref z11, .ref z12, .ref z13, .ref z14, .ref z15, .ref z16, .ref z17, .ref z18, .ref z19, .int n20, .int n21, .ref z22, .ref z23, .ref z24, .ref z25, .ref z26, .ref z27, .ref z28, .ref z29, .ref z30, .ref z31, .ref z32, .ref z33, .int n34, .long n35, .ref z36, .ref z37, .ref z38, .ref z39, .ref z40, .ref z41, .ref z42, .ref z43, .ref z44, .ref z45, .ref z46, .ref z47, .ref z48, .int n49, .int n50, .int n51, .int n52, .int n53, .int n54, .ref z55, .ref z56, .int n57, .int n58, .ref z59, .ref z60, .ref z61, .int n62, .long n63]))]) 5 gw_1784 gw_1785 gw_15 gw_1786 hd_X12_getsBy hC hw (c_X12_getsBy γ l bo lo ge 1 1) ⟨by decide, by decide⟩ ⟨by decide, by decide⟩ hl.1 rfl rfl (Nat.le_of_ble_eq_true rfl) [] [0] rfl rfl rfl rfl (by decide) dX12_rests_88 (fun r w1 H locs hq hw => ?_)
  obtain ⟨r9_1901, rfl, rfl, g_1902⟩ := hq
  have hw : kW γ A [(z, .inr (11, [.int 0, .int n1, .ref z2, .int n3, .int n4, .int n5, .int n6, .long n7, .int n8, .int n9, .ref z10, .ref z11, .ref z12, .ref z13, .ref z14, .ref z15, .ref z16, .ref z17, .ref z18, .ref z19, .int n20, .int n21, .ref z22, .ref z23, .ref z24, .ref z25, .ref z26, .ref z27, .ref z28, .ref z29, .ref z30, .ref z31, .ref z32, .ref z33, .int n34, .long n35, .ref z36, .ref z37, .ref z38, .ref z39, .ref z40, .ref z41, .ref z42, .ref z43, .ref z44, .ref z45, .ref z46, .ref z47, .ref z48, .int n49, .int n50, .int n51, .int n52, .int n53, .int n54, .ref z55, .ref z56, .int n57, .int n58, .ref z59, .ref z60, .ref z61, .int n62, .long n63]))] s H locs := hw
  refine W.eq (g2 := F0 m 91 ls [.int r9_1901]) rfl ?_
  refine lv_iload_n hx hb dX12_rests_91 rfl (lv_at hl 5 rfl) ?_
  refine lv_iload_n hx hb dX12_rests_92 rfl (lv_at hl 6 rfl) ?_
  refine lv_iload_n hx hb dX12_rests_93 rfl (lv_at hl 7 rfl) ?_
  refine lv_iload hx hb dX12_rests_94 (lv_at hl 1 rfl) ?_
  refine lv_iload hx hb dX12_rests_96 (lv_at hl 0 rfl) ?_
  refine k_S (wr := [(z, .inr (11, [.int 0, .int n1, .ref z2, .int n3, .int n4, .int n5, .int n6, .long n7, .int n8, .int n9, .ref z10, .ref z11, .ref z12, .ref z13, .ref z14, .ref z15, .ref z16, .ref z17, .ref z18, .ref z19, .int n20, .int n21, .ref z22, .ref z23, .ref z24, .ref z25, .ref z26, .ref z27, .ref z28, .ref z29, .ref z30, .ref z31, .ref z32, .ref z33, .int n34, .long n35, .ref z36, .ref z37, .ref z38, .ref z39, .ref z40, .ref z41, .ref z42, .ref z43, .ref z44, .ref z45, .ref z46, .ref z47, .ref z48, .int n49, .int n50, .int n51, .int n52, .int n53, .int n54, .ref z55, .ref z56, .int n57, .int n58, .ref z59, .ref z60, .ref z61, .int n62, .long n63]))]) 5 gw_1784 gw_1785 gw_15 gw_1786 hd_X12_getsBy hC hw (c_X12_getsBy γ l bo lo ge 0 1) ⟨by decide, by decide⟩ ⟨by decide, by decide⟩ hl.1 rfl rfl (Nat.le_of_ble_eq_true rfl) [] [0] rfl rfl rfl rfl (by decide) dX12_rests_98 (fun r w1 H locs hq hw => ?_)
  obtain ⟨r9_1903, rfl, rfl, g_1904⟩ := hq
  have hw : kW γ A [(z, .inr (11, [.int 0, .int n1, .ref z2, .int n3, .int n4, .int n5, .int n6, .long n7, .int n8, .int n9, .ref z10, .ref z11, .ref z12, .ref z13, .ref z14, .ref z15, .ref z16, .ref z17, .ref z18, .ref z19, .int n20, .int n21, .ref z22, .ref z23, .ref z24, .ref z25, .ref z26, .ref z27, .ref z28, .ref z29, .ref z30, .ref z31, .ref z32, .ref z33, .int n34, .long n35, .ref z36, .ref z37, .ref z38, .ref z39, .ref z40, .ref z41, .ref z42, .ref z43, .ref z44, .ref z45, .ref z46, .ref z47, .ref z48, .int n49, .int n50, .int n51, .int n52, .int n53, .int n54, .ref z55, .ref z56, .int n57, .int n58, .ref z59, .ref z60, .ref z61, .int n62, .long n63]))] s H locs := hw
  refine W.eq (g2 := F0 m 101 ls [.int r9_1903, .int r9_1901]) rfl ?_
  refine lv_icmp_gt (tgt := 145) hx hb dX12_rests_101 (by decide) (fun c101 => ?_) (fun c101 => ?_)
  · have hk1 : kcb 0 1 bo lo ge = false := kcb_f (a1 := 1) (by decide) g_1902 g_1904 (Int32.not_le.mpr c101)
    refine lv_iinc (v := 2) (lv' := [(6, .int 2), (8, .int 1), (7, .int 0), (5, .int mn), (0, .ref z), (1, .int bo), (2, .int lo), (3, .int ge), (4, .int wh)]) hx hb dX12_rests_145 hl (k := 2) rfl (by decide) (by decide) rfl (fun ls hl => ?_)
    refine lv_goto (tgt := 61) hx hb dX12_rests_148 (by decide) ?_
    exact mrr_2 z z2 z10 z11 z12 z13 z14 z15 z16 z17 z18 z19 z22 z23 z24 z25 z26 z27 z28 z29 z30 z31 z32 z33 z36 z37 z38 z39 z40 z41 z42 z43 z44 z45 z46 z47 z48 z55 z56 z59 z60 z61 n1 n3 n4 n5 n6 n7 n8 n9 n20 n21 n34 n35 n49 n50 n51 n52 n53 n54 n57 n58 n62 n63 bo lo ge wh v mn (kR_n1 hK hk1) hC hr hlocks _ _ hw _ (lv_sub hl [0, 3, 4, 5, 6, 7, 8] rfl)
  · have hk1 : kcb 0 1 bo lo ge = true := kcb_t (a1 := 1) (by decide) g_1902 g_1904 (Int32.not_lt.mp c101)
    refine lv_iload_n hx hb dX12_rests_104 rfl (lv_at hl 5 rfl) ?_
    refine lv_iload_n hx hb dX12_rests_105 rfl (lv_at hl 6 rfl) ?_
    refine lv_iload_n hx hb dX12_rests_106 rfl (lv_at hl 7 rfl) ?_
    refine lv_iconst (v := 1) hx hb dX12_rests_107 (by decide) ?_
    refine lv_iload hx hb dX12_rests_108 (lv_at hl 0 rfl) ?_
    refine lv_isub hx hb dX12_rests_110 ?_
    refine lv_topi (fun x_1905 ex_1905 => ?_)
    obtain rfl : x_1905 = 0 := ex_1905.trans (by decide)
    refine lv_iload hx hb dX12_rests_111 (lv_at hl 1 rfl) ?_
    refine k_S (wr := [(z, .inr (11, [.int 0, .int n1, .ref z2, .int n3, .int n4, .int n5, .int n6, .long n7, .int n8, .int n9, .ref z10, .ref z11, .ref z12, .ref z13, .ref z14, .ref z15, .ref z16, .ref z17, .ref z18, .ref z19, .int n20, .int n21, .ref z22, .ref z23, .ref z24, .ref z25, .ref z26, .ref z27, .ref z28, .ref z29, .ref z30, .ref z31, .ref z32, .ref z33, .int n34, .long n35, .ref z36, .ref z37, .ref z38, .ref z39, .ref z40, .ref z41, .ref z42, .ref z43, .ref z44, .ref z45, .ref z46, .ref z47, .ref z48, .int n49, .int n50, .int n51, .int n52, .int n53, .int n54, .ref z55, .ref z56, .int n57, .int n58, .ref z59, .ref z60, .ref z61, .int n62, .long n63]))]) 5 gw_1784 gw_1785 gw_15 gw_1786 hd_X12_getsBy hC hw (c_X12_getsBy γ l bo lo ge 0 0) ⟨by decide, by decide⟩ ⟨by decide, by decide⟩ hl.1 rfl rfl (Nat.le_of_ble_eq_true rfl) [] [0] rfl rfl rfl rfl (by decide) dX12_rests_113 (fun r w1 H locs hq hw => ?_)
    obtain ⟨r9_1906, rfl, rfl, g_1907⟩ := hq
    have hw : kW γ A [(z, .inr (11, [.int 0, .int n1, .ref z2, .int n3, .int n4, .int n5, .int n6, .long n7, .int n8, .int n9, .ref z10, .ref z11, .ref z12, .ref z13, .ref z14, .ref z15, .ref z16, .ref z17, .ref z18, .ref z19, .int n20, .int n21, .ref z22, .ref z23, .ref z24, .ref z25, .ref z26, .ref z27, .ref z28, .ref z29, .ref z30, .ref z31, .ref z32, .ref z33, .int n34, .long n35, .ref z36, .ref z37, .ref z38, .ref z39, .ref z40, .ref z41, .ref z42, .ref z43, .ref z44, .ref z45, .ref z46, .ref z47, .ref z48, .int n49, .int n50, .int n51, .int n52, .int n53, .int n54, .ref z55, .ref z56, .int n57, .int n58, .ref z59, .ref z60, .ref z61, .int n62, .long n63]))] s H locs := hw
    refine W.eq (g2 := F0 m 116 ls [.int r9_1906]) rfl ?_
    refine lv_iload_n hx hb dX12_rests_116 rfl (lv_at hl 5 rfl) ?_
    refine lv_iload_n hx hb dX12_rests_117 rfl (lv_at hl 6 rfl) ?_
    refine lv_iload_n hx hb dX12_rests_118 rfl (lv_at hl 7 rfl) ?_
    refine lv_iload hx hb dX12_rests_119 (lv_at hl 0 rfl) ?_
    refine lv_iload hx hb dX12_rests_121 (lv_at hl 1 rfl) ?_
    refine k_S (wr := [(z, .inr (11, [.int 0, .int n1, .ref z2, .int n3, .int n4, .int n5, .int n6, .long n7, .int n8, .int n9, .ref z10, .ref z11, .ref z12, .ref z13, .ref z14, .ref z15, .ref z16, .ref z17, .ref z18, .ref z19, .int n20, .int n21, .ref z22, .ref z23, .ref z24, .ref z25, .ref z26, .ref z27, .ref z28, .ref z29, .ref z30, .ref z31, .ref z32, .ref z33, .int n34, .long n35, .ref z36, .ref z37, .ref z38, .ref z39, .ref z40, .ref z41, .ref z42, .ref z43, .ref z44, .ref z45, .ref z46, .ref z47, .ref z48, .int n49, .int n50, .int n51, .int n52, .int n53, .int n54, .ref z55, .ref z56, .int n57, .int n58, .ref z59, .ref z60, .ref z61, .int n62, .long n63]))]) 5 gw_1784 gw_1785 gw_15 gw_1786 hd_X12_getsBy hC hw (c_X12_getsBy γ l bo lo ge 1 0) ⟨by decide, by decide⟩ ⟨by decide, by decide⟩ hl.1 rfl rfl (Nat.le_of_ble_eq_true rfl) [] [0] rfl rfl rfl rfl (by decide) dX12_rests_123 (fun r w1 H locs hq hw => ?_)
    obtain ⟨r9_1908, rfl, rfl, g_1909⟩ := hq
    have hw : kW γ A [(z, .inr (11, [.int 0, .int n1, .ref z2, .int n3, .int n4, .int n5, .int n6, .long n7, .int n8, .int n9, .ref z10, .ref z11, .ref z12, .ref z13, .ref z14, .ref z15, .ref z16, .ref z17, .ref z18, .ref z19, .int n20, .int n21, .ref z22, .ref z23, .ref z24, .ref z25, .ref z26, .ref z27, .ref z28, .ref z29, .ref z30, .ref z31, .ref z32, .ref z33, .int n34, .long n35, .ref z36, .ref z37, .ref z38, .ref z39, .ref z40, .ref z41, .ref z42, .ref z43, .ref z44, .ref z45, .ref z46, .ref z47, .ref z48, .int n49, .int n50, .int n51, .int n52, .int n53, .int n54, .ref z55, .ref z56, .int n57, .int n58, .ref z59, .ref z60, .ref z61, .int n62, .long n63]))] s H locs := hw
    refine W.eq (g2 := F0 m 126 ls [.int r9_1908, .int r9_1906]) rfl ?_
    refine lv_icmp_le (tgt := 132) hx hb dX12_rests_126 (by decide) (fun c126 => ?_) (fun c126 => ?_)
    · have hk2 : kcb 1 0 bo lo ge = true := kcb_t (a1 := 0) (by decide) g_1907 g_1909 c126
      refine lv_iload hx hb dX12_rests_132 (lv_at hl 3 rfl) ?_
      refine lv_iload hx hb dX12_rests_134 (lv_at hl 8 rfl) ?_
      refine lv_icmp_ne (tgt := 142) hx hb dX12_rests_136 (by decide) (fun c136 => ?_) (fun c136 => ?_)
      · refine lv_iinc (v := (mn + 1)) (lv' := [(5, .int (mn + 1)), (8, .int 1), (7, .int 0), (6, .int 1), (0, .ref z), (1, .int bo), (2, .int lo), (3, .int ge), (4, .int wh)]) hx hb dX12_rests_142 hl (k := 3) rfl rfl (by decide) rfl (fun ls hl => ?_)
        refine lv_iinc (v := 2) (lv' := [(6, .int 2), (5, .int (mn + 1)), (8, .int 1), (7, .int 0), (0, .ref z), (1, .int bo), (2, .int lo), (3, .int ge), (4, .int wh)]) hx hb dX12_rests_145 hl (k := 3) rfl (by decide) (by decide) rfl (fun ls hl => ?_)
        refine lv_goto (tgt := 61) hx hb dX12_rests_148 (by decide) ?_
        exact mrr_2 z z2 z10 z11 z12 z13 z14 z15 z16 z17 z18 z19 z22 z23 z24 z25 z26 z27 z28 z29 z30 z31 z32 z33 z36 z37 z38 z39 z40 z41 z42 z43 z44 z45 z46 z47 z48 z55 z56 z59 z60 z61 n1 n3 n4 n5 n6 n7 n8 n9 n20 n21 n34 n35 n49 n50 n51 n52 n53 n54 n57 n58 n62 n63 bo lo ge wh v (mn + 1) (kR_c hK hk1 hk2 c136) hC hr hlocks _ _ hw _ (lv_sub hl [0, 1, 4, 5, 6, 7, 8] rfl)
      · refine lv_iload hx hb dX12_rests_139 (lv_at hl 2 rfl) ?_
        obtain rfl : 1 = v := Option.some.inj (kR_e hK hk1 hk2 c136)
        exact k_iret hC hr hlocks hw [0] rfl rfl ⟨rfl, rfl⟩ (by decide) (by decide) dX12_rests_141
    · have hk2 : kcb 1 0 bo lo ge = false := kcb_f (a1 := 0) (by decide) g_1907 g_1909 c126
      refine lv_goto (tgt := 145) hx hb dX12_rests_129 (by decide) ?_
      refine lv_iinc (v := 2) (lv' := [(6, .int 2), (8, .int 1), (7, .int 0), (5, .int mn), (0, .ref z), (1, .int bo), (2, .int lo), (3, .int ge), (4, .int wh)]) hx hb dX12_rests_145 hl (k := 2) rfl (by decide) (by decide) rfl (fun ls hl => ?_)
      refine lv_goto (tgt := 61) hx hb dX12_rests_148 (by decide) ?_
      exact mrr_2 z z2 z10 z11 z12 z13 z14 z15 z16 z17 z18 z19 z22 z23 z24 z25 z26 z27 z28 z29 z30 z31 z32 z33 z36 z37 z38 z39 z40 z41 z42 z43 z44 z45 z46 z47 z48 z55 z56 z59 z60 z61 n1 n3 n4 n5 n6 n7 n8 n9 n20 n21 n34 n35 n49 n50 n51 n52 n53 n54 n57 n58 n62 n63 bo lo ge wh v mn (kR_n2 hK hk2) hC hr hlocks _ _ hw _ (lv_sub hl [0, 3, 4, 5, 6, 7, 8] rfl)

set_option maxHeartbeats 4000000 in
set_option maxRecDepth 100000 in
theorem mrr_4 {γ : kΓ} {l : Launch} {p : Program} {e : Env} {s : State} {m : MethodId} {below : List Frame} {meth : Method} {c : Code} {A : Nat → Prop} (z : Nat) (z2 : Nat) (z10 : Nat) (z11 : Nat) (z12 : Nat) (z13 : Nat) (z14 : Nat) (z15 : Nat) (z16 : Nat) (z17 : Nat) (z18 : Nat) (z19 : Nat) (z22 : Nat) (z23 : Nat) (z24 : Nat) (z25 : Nat) (z26 : Nat) (z27 : Nat) (z28 : Nat) (z29 : Nat) (z30 : Nat) (z31 : Nat) (z32 : Nat) (z33 : Nat) (z36 : Nat) (z37 : Nat) (z38 : Nat) (z39 : Nat) (z40 : Nat) (z41 : Nat) (z42 : Nat) (z43 : Nat) (z44 : Nat) (z45 : Nat) (z46 : Nat) (z47 : Nat) (z48 : Nat) (z55 : Nat) (z56 : Nat) (z59 : Nat) (z60 : Nat) (z61 : Nat) (n1 : Int32) (n3 : Int32) (n4 : Int32) (n5 : Int32) (n6 : Int32) (n7 : Int64) (n8 : Int32) (n9 : Int32) (n20 : Int32) (n21 : Int32) (n34 : Int32) (n35 : Int64) (n49 : Int32) (n50 : Int32) (n51 : Int32) (n52 : Int32) (n53 : Int32) (n54 : Int32) (n57 : Int32) (n58 : Int32) (n62 : Int32) (n63 : Int64) (bo : Int32) (lo : Int32) (ge : Int32) (wh : Int32) (v : Int32) (mn : Int32) (hK : kR bo lo ge wh 4 mn = some v) (hC : kC γ p s m [.ref z, .int bo, .int lo, .int ge, .int wh].toArray c cX12_rests 9 RX12 A) (hr : meth.sig.returnType = (some .int)) (hlocks : meth.locks = false) (H : Heap) (locs : List Loc) (hw : kW γ A [(z, .inr (11, [.int 0, .int n1, .ref z2, .int n3, .int n4, .int n5, .int n6, .long n7, .int n8, .int n9, .ref z10, .ref z11, .ref z12, .ref z13, .ref z14, .ref z15, .ref z16, .ref z17, .ref z18, .ref z19, .int n20, .int n21, .ref z22, .ref z23, .ref z24, .ref z25, .ref z26, .ref z27, .ref z28, .ref z29, .ref z30, .ref z31, .ref z32, .ref z33, .int n34, .long n35, .ref z36, .ref z37, .ref z38, .ref z39, .ref z40, .ref z41, .ref z42, .ref z43, .ref z44, .ref z45, .ref z46, .ref z47, .ref z48, .int n49, .int n50, .int n51, .int n52, .int n53, .int n54, .ref z55, .ref z56, .int n57, .int n58, .ref z59, .ref z60, .ref z61, .int n62, .long n63]))] s H locs) (ls : Array Slot) (hl : lv_has ls 9 [(6, .int 0), (5, .int mn), (0, .ref z), (1, .int bo), (2, .int lo), (3, .int ge), (4, .int wh)]) : W p l e ({ frames := 1, cells := 0, slots := 0, locals := 24 } : Room) s m [.ref z, .int bo, .int lo, .int ge, .int wh].toArray below meth c H locs 0 0 (MQ below (kQ γ A (fun r w1 => r = some (.int v) ∧ w1 = [(z, .inr (11, [.int 0, .int n1, .ref z2, .int n3, .int n4, .int n5, .int n6, .long n7, .int n8, .int n9, .ref z10, .ref z11, .ref z12, .ref z13, .ref z14, .ref z15, .ref z16, .ref z17, .ref z18, .ref z19, .int n20, .int n21, .ref z22, .ref z23, .ref z24, .ref z25, .ref z26, .ref z27, .ref z28, .ref z29, .ref z30, .ref z31, .ref z32, .ref z33, .int n34, .long n35, .ref z36, .ref z37, .ref z38, .ref z39, .ref z40, .ref z41, .ref z42, .ref z43, .ref z44, .ref z45, .ref z46, .ref z47, .ref z48, .int n49, .int n50, .int n51, .int n52, .int n53, .int n54, .ref z55, .ref z56, .int n57, .int n58, .ref z59, .ref z60, .ref z61, .int n62, .long n63]))])) [.ref z, .int bo, .int lo, .int ge, .int wh].toArray s 0 0 A) (F0 m 61 ls []) := by
  have hx := hC.1
  have hb := hC.2.1
  refine lv_iload hx hb dX12_rests_61 (lv_at hl 0 rfl) ?_
  refine lv_iconst (v := 4) hx hb dX12_rests_63 (by decide) ?_
  refine lv_icmp_ge (tgt := 151) hx hb dX12_rests_64 (by decide) (fun h => absurd h (by decide)) (fun _ => ?_)
  refine lv_iload hx hb dX12_rests_67 (lv_at hl 0 rfl) ?_
  refine lv_iconst (v := 2) hx hb dX12_rests_69 (by decide) ?_
  refine lv_idiv hx hb dX12_rests_70 (by decide) ?_
  refine lv_topi (fun x_1910 ex_1910 => ?_)
  obtain rfl : x_1910 = 0 := ex_1910.trans (by decide)
  refine lv_istore (lv' := [(7, .int 0), (6, .int 0), (5, .int mn), (0, .ref z), (1, .int bo), (2, .int lo), (3, .int ge), (4, .int wh)]) hx hb dX12_rests_71 hl (by decide) rfl (fun ls hl => ?_)
  refine lv_iload hx hb dX12_rests_73 (lv_at hl 1 rfl) ?_
  refine lv_iconst (v := 2) hx hb dX12_rests_75 (by decide) ?_
  refine lv_irem hx hb dX12_rests_76 (by decide) ?_
  refine lv_topi (fun x_1911 ex_1911 => ?_)
  obtain rfl : x_1911 = 0 := ex_1911.trans (by decide)
  refine lv_istore (lv' := [(8, .int 0), (7, .int 0), (6, .int 0), (5, .int mn), (0, .ref z), (1, .int bo), (2, .int lo), (3, .int ge), (4, .int wh)]) hx hb dX12_rests_77 hl (by decide) rfl (fun ls hl => ?_)
  refine lv_iload_n hx hb dX12_rests_79 rfl (lv_at hl 5 rfl) ?_
  refine lv_iload_n hx hb dX12_rests_80 rfl (lv_at hl 6 rfl) ?_
  refine lv_iload_n hx hb dX12_rests_81 rfl (lv_at hl 7 rfl) ?_
  refine lv_iconst (v := 1) hx hb dX12_rests_82 (by decide) ?_
  refine lv_iload hx hb dX12_rests_83 (lv_at hl 1 rfl) ?_
  refine lv_isub hx hb dX12_rests_85 ?_
  refine lv_topi (fun x_1912 ex_1912 => ?_)
  obtain rfl : x_1912 = 1 := ex_1912.trans (by decide)
  refine lv_iload hx hb dX12_rests_86 (lv_at hl 0 rfl) ?_
  refine k_S (wr := [(z, .inr (11, [.int 0, .int n1, .ref z2, .int n3, .int n4, .int n5, .int n6, .long n7, .int n8, .int n9, .ref z10, .ref z11, .ref z12, .ref z13, .ref z14, .ref z15, .ref z16, .ref z17, .ref z18, .ref z19, .int n20, .int n21, .ref z22, .ref z23, .ref z24, .ref z25, .ref z26, .ref z27, .ref z28, .ref z29, .ref z30, .ref z31, .ref z32, .ref z33, .int n34, .long n35, .ref z36, .ref z37, .ref z38, .ref z39, .ref z40, .ref z41, .ref z42, .ref z43, .ref z44, .ref z45, .ref z46, .ref z47, .ref z48, .int n49, .int n50, .int n51, .int n52, .int n53, .int n54, .ref z55, .ref z56, .int n57, .int n58, .ref z59, .ref z60, .ref z61, .int n62, .long n63]))]) 5 gw_1784 gw_1785 gw_15 gw_1786 hd_X12_getsBy hC hw (c_X12_getsBy γ l bo lo ge 1 0) ⟨by decide, by decide⟩ ⟨by decide, by decide⟩ hl.1 rfl rfl (Nat.le_of_ble_eq_true rfl) [] [0] rfl rfl rfl rfl (by decide) dX12_rests_88 (fun r w1 H locs hq hw => ?_)
  obtain ⟨r9_1913, rfl, rfl, g_1914⟩ := hq
  have hw : kW γ A [(z, .inr (11, [.int 0, .int n1, .ref z2, .int n3, .int n4, .int n5, .int n6, .long n7, .int n8, .int n9, .ref z10, .ref z11, .ref z12, .ref z13, .ref z14, .ref z15, .ref z16, .ref z17, .ref z18, .ref z19, .int n20, .int n21, .ref z22, .ref z23, .ref z24, .ref z25, .ref z26, .ref z27, .ref z28, .ref z29, .ref z30, .ref z31, .ref z32, .ref z33, .int n34, .long n35, .ref z36, .ref z37, .ref z38, .ref z39, .ref z40, .ref z41, .ref z42, .ref z43, .ref z44, .ref z45, .ref z46, .ref z47, .ref z48, .int n49, .int n50, .int n51, .int n52, .int n53, .int n54, .ref z55, .ref z56, .int n57, .int n58, .ref z59, .ref z60, .ref z61, .int n62, .long n63]))] s H locs := hw
  refine W.eq (g2 := F0 m 91 ls [.int r9_1913]) rfl ?_
  refine lv_iload_n hx hb dX12_rests_91 rfl (lv_at hl 5 rfl) ?_
  refine lv_iload_n hx hb dX12_rests_92 rfl (lv_at hl 6 rfl) ?_
  refine lv_iload_n hx hb dX12_rests_93 rfl (lv_at hl 7 rfl) ?_
  refine lv_iload hx hb dX12_rests_94 (lv_at hl 1 rfl) ?_
  refine lv_iload hx hb dX12_rests_96 (lv_at hl 0 rfl) ?_
  refine k_S (wr := [(z, .inr (11, [.int 0, .int n1, .ref z2, .int n3, .int n4, .int n5, .int n6, .long n7, .int n8, .int n9, .ref z10, .ref z11, .ref z12, .ref z13, .ref z14, .ref z15, .ref z16, .ref z17, .ref z18, .ref z19, .int n20, .int n21, .ref z22, .ref z23, .ref z24, .ref z25, .ref z26, .ref z27, .ref z28, .ref z29, .ref z30, .ref z31, .ref z32, .ref z33, .int n34, .long n35, .ref z36, .ref z37, .ref z38, .ref z39, .ref z40, .ref z41, .ref z42, .ref z43, .ref z44, .ref z45, .ref z46, .ref z47, .ref z48, .int n49, .int n50, .int n51, .int n52, .int n53, .int n54, .ref z55, .ref z56, .int n57, .int n58, .ref z59, .ref z60, .ref z61, .int n62, .long n63]))]) 5 gw_1784 gw_1785 gw_15 gw_1786 hd_X12_getsBy hC hw (c_X12_getsBy γ l bo lo ge 0 0) ⟨by decide, by decide⟩ ⟨by decide, by decide⟩ hl.1 rfl rfl (Nat.le_of_ble_eq_true rfl) [] [0] rfl rfl rfl rfl (by decide) dX12_rests_98 (fun r w1 H locs hq hw => ?_)
  obtain ⟨r9_1915, rfl, rfl, g_1916⟩ := hq
  have hw : kW γ A [(z, .inr (11, [.int 0, .int n1, .ref z2, .int n3, .int n4, .int n5, .int n6, .long n7, .int n8, .int n9, .ref z10, .ref z11, .ref z12, .ref z13, .ref z14, .ref z15, .ref z16, .ref z17, .ref z18, .ref z19, .int n20, .int n21, .ref z22, .ref z23, .ref z24, .ref z25, .ref z26, .ref z27, .ref z28, .ref z29, .ref z30, .ref z31, .ref z32, .ref z33, .int n34, .long n35, .ref z36, .ref z37, .ref z38, .ref z39, .ref z40, .ref z41, .ref z42, .ref z43, .ref z44, .ref z45, .ref z46, .ref z47, .ref z48, .int n49, .int n50, .int n51, .int n52, .int n53, .int n54, .ref z55, .ref z56, .int n57, .int n58, .ref z59, .ref z60, .ref z61, .int n62, .long n63]))] s H locs := hw
  refine W.eq (g2 := F0 m 101 ls [.int r9_1915, .int r9_1913]) rfl ?_
  refine lv_icmp_gt (tgt := 145) hx hb dX12_rests_101 (by decide) (fun c101 => ?_) (fun c101 => ?_)
  · have hk1 : kcb 0 0 bo lo ge = false := kcb_f (a1 := 1) (by decide) g_1914 g_1916 (Int32.not_le.mpr c101)
    refine lv_iinc (v := 1) (lv' := [(6, .int 1), (8, .int 0), (7, .int 0), (5, .int mn), (0, .ref z), (1, .int bo), (2, .int lo), (3, .int ge), (4, .int wh)]) hx hb dX12_rests_145 hl (k := 2) rfl (by decide) (by decide) rfl (fun ls hl => ?_)
    refine lv_goto (tgt := 61) hx hb dX12_rests_148 (by decide) ?_
    exact mrr_3 z z2 z10 z11 z12 z13 z14 z15 z16 z17 z18 z19 z22 z23 z24 z25 z26 z27 z28 z29 z30 z31 z32 z33 z36 z37 z38 z39 z40 z41 z42 z43 z44 z45 z46 z47 z48 z55 z56 z59 z60 z61 n1 n3 n4 n5 n6 n7 n8 n9 n20 n21 n34 n35 n49 n50 n51 n52 n53 n54 n57 n58 n62 n63 bo lo ge wh v mn (kR_n1 hK hk1) hC hr hlocks _ _ hw _ (lv_sub hl [0, 3, 4, 5, 6, 7, 8] rfl)
  · have hk1 : kcb 0 0 bo lo ge = true := kcb_t (a1 := 1) (by decide) g_1914 g_1916 (Int32.not_lt.mp c101)
    refine lv_iload_n hx hb dX12_rests_104 rfl (lv_at hl 5 rfl) ?_
    refine lv_iload_n hx hb dX12_rests_105 rfl (lv_at hl 6 rfl) ?_
    refine lv_iload_n hx hb dX12_rests_106 rfl (lv_at hl 7 rfl) ?_
    refine lv_iconst (v := 1) hx hb dX12_rests_107 (by decide) ?_
    refine lv_iload hx hb dX12_rests_108 (lv_at hl 0 rfl) ?_
    refine lv_isub hx hb dX12_rests_110 ?_
    refine lv_topi (fun x_1917 ex_1917 => ?_)
    obtain rfl : x_1917 = 1 := ex_1917.trans (by decide)
    refine lv_iload hx hb dX12_rests_111 (lv_at hl 1 rfl) ?_
    refine k_S (wr := [(z, .inr (11, [.int 0, .int n1, .ref z2, .int n3, .int n4, .int n5, .int n6, .long n7, .int n8, .int n9, .ref z10, .ref z11, .ref z12, .ref z13, .ref z14, .ref z15, .ref z16, .ref z17, .ref z18, .ref z19, .int n20, .int n21, .ref z22, .ref z23, .ref z24, .ref z25, .ref z26, .ref z27, .ref z28, .ref z29, .ref z30, .ref z31, .ref z32, .ref z33, .int n34, .long n35, .ref z36, .ref z37, .ref z38, .ref z39, .ref z40, .ref z41, .ref z42, .ref z43, .ref z44, .ref z45, .ref z46, .ref z47, .ref z48, .int n49, .int n50, .int n51, .int n52, .int n53, .int n54, .ref z55, .ref z56, .int n57, .int n58, .ref z59, .ref z60, .ref z61, .int n62, .long n63]))]) 5 gw_1784 gw_1785 gw_15 gw_1786 hd_X12_getsBy hC hw (c_X12_getsBy γ l bo lo ge 1 0) ⟨by decide, by decide⟩ ⟨by decide, by decide⟩ hl.1 rfl rfl (Nat.le_of_ble_eq_true rfl) [] [0] rfl rfl rfl rfl (by decide) dX12_rests_113 (fun r w1 H locs hq hw => ?_)
    obtain ⟨r9_1918, rfl, rfl, g_1919⟩ := hq
    have hw : kW γ A [(z, .inr (11, [.int 0, .int n1, .ref z2, .int n3, .int n4, .int n5, .int n6, .long n7, .int n8, .int n9, .ref z10, .ref z11, .ref z12, .ref z13, .ref z14, .ref z15, .ref z16, .ref z17, .ref z18, .ref z19, .int n20, .int n21, .ref z22, .ref z23, .ref z24, .ref z25, .ref z26, .ref z27, .ref z28, .ref z29, .ref z30, .ref z31, .ref z32, .ref z33, .int n34, .long n35, .ref z36, .ref z37, .ref z38, .ref z39, .ref z40, .ref z41, .ref z42, .ref z43, .ref z44, .ref z45, .ref z46, .ref z47, .ref z48, .int n49, .int n50, .int n51, .int n52, .int n53, .int n54, .ref z55, .ref z56, .int n57, .int n58, .ref z59, .ref z60, .ref z61, .int n62, .long n63]))] s H locs := hw
    refine W.eq (g2 := F0 m 116 ls [.int r9_1918]) rfl ?_
    refine lv_iload_n hx hb dX12_rests_116 rfl (lv_at hl 5 rfl) ?_
    refine lv_iload_n hx hb dX12_rests_117 rfl (lv_at hl 6 rfl) ?_
    refine lv_iload_n hx hb dX12_rests_118 rfl (lv_at hl 7 rfl) ?_
    refine lv_iload hx hb dX12_rests_119 (lv_at hl 0 rfl) ?_
    refine lv_iload hx hb dX12_rests_121 (lv_at hl 1 rfl) ?_
    refine k_S (wr := [(z, .inr (11, [.int 0, .int n1, .ref z2, .int n3, .int n4, .int n5, .int n6, .long n7, .int n8, .int n9, .ref z10, .ref z11, .ref z12, .ref z13, .ref z14, .ref z15, .ref z16, .ref z17, .ref z18, .ref z19, .int n20, .int n21, .ref z22, .ref z23, .ref z24, .ref z25, .ref z26, .ref z27, .ref z28, .ref z29, .ref z30, .ref z31, .ref z32, .ref z33, .int n34, .long n35, .ref z36, .ref z37, .ref z38, .ref z39, .ref z40, .ref z41, .ref z42, .ref z43, .ref z44, .ref z45, .ref z46, .ref z47, .ref z48, .int n49, .int n50, .int n51, .int n52, .int n53, .int n54, .ref z55, .ref z56, .int n57, .int n58, .ref z59, .ref z60, .ref z61, .int n62, .long n63]))]) 5 gw_1784 gw_1785 gw_15 gw_1786 hd_X12_getsBy hC hw (c_X12_getsBy γ l bo lo ge 0 0) ⟨by decide, by decide⟩ ⟨by decide, by decide⟩ hl.1 rfl rfl (Nat.le_of_ble_eq_true rfl) [] [0] rfl rfl rfl rfl (by decide) dX12_rests_123 (fun r w1 H locs hq hw => ?_)
    obtain ⟨r9_1920, rfl, rfl, g_1921⟩ := hq
    have hw : kW γ A [(z, .inr (11, [.int 0, .int n1, .ref z2, .int n3, .int n4, .int n5, .int n6, .long n7, .int n8, .int n9, .ref z10, .ref z11, .ref z12, .ref z13, .ref z14, .ref z15, .ref z16, .ref z17, .ref z18, .ref z19, .int n20, .int n21, .ref z22, .ref z23, .ref z24, .ref z25, .ref z26, .ref z27, .ref z28, .ref z29, .ref z30, .ref z31, .ref z32, .ref z33, .int n34, .long n35, .ref z36, .ref z37, .ref z38, .ref z39, .ref z40, .ref z41, .ref z42, .ref z43, .ref z44, .ref z45, .ref z46, .ref z47, .ref z48, .int n49, .int n50, .int n51, .int n52, .int n53, .int n54, .ref z55, .ref z56, .int n57, .int n58, .ref z59, .ref z60, .ref z61, .int n62, .long n63]))] s H locs := hw
    refine W.eq (g2 := F0 m 126 ls [.int r9_1920, .int r9_1918]) rfl ?_
    refine lv_icmp_le (tgt := 132) hx hb dX12_rests_126 (by decide) (fun c126 => ?_) (fun c126 => ?_)
    · have hk2 : kcb 0 0 bo lo ge = true := kcb_t (a1 := 1) (by decide) g_1919 g_1921 c126
      refine lv_iload hx hb dX12_rests_132 (lv_at hl 3 rfl) ?_
      refine lv_iload hx hb dX12_rests_134 (lv_at hl 8 rfl) ?_
      refine lv_icmp_ne (tgt := 142) hx hb dX12_rests_136 (by decide) (fun c136 => ?_) (fun c136 => ?_)
      · refine lv_iinc (v := (mn + 1)) (lv' := [(5, .int (mn + 1)), (8, .int 0), (7, .int 0), (6, .int 0), (0, .ref z), (1, .int bo), (2, .int lo), (3, .int ge), (4, .int wh)]) hx hb dX12_rests_142 hl (k := 3) rfl rfl (by decide) rfl (fun ls hl => ?_)
        refine lv_iinc (v := 1) (lv' := [(6, .int 1), (5, .int (mn + 1)), (8, .int 0), (7, .int 0), (0, .ref z), (1, .int bo), (2, .int lo), (3, .int ge), (4, .int wh)]) hx hb dX12_rests_145 hl (k := 3) rfl (by decide) (by decide) rfl (fun ls hl => ?_)
        refine lv_goto (tgt := 61) hx hb dX12_rests_148 (by decide) ?_
        exact mrr_3 z z2 z10 z11 z12 z13 z14 z15 z16 z17 z18 z19 z22 z23 z24 z25 z26 z27 z28 z29 z30 z31 z32 z33 z36 z37 z38 z39 z40 z41 z42 z43 z44 z45 z46 z47 z48 z55 z56 z59 z60 z61 n1 n3 n4 n5 n6 n7 n8 n9 n20 n21 n34 n35 n49 n50 n51 n52 n53 n54 n57 n58 n62 n63 bo lo ge wh v (mn + 1) (kR_c hK hk1 hk2 c136) hC hr hlocks _ _ hw _ (lv_sub hl [0, 1, 4, 5, 6, 7, 8] rfl)
      · refine lv_iload hx hb dX12_rests_139 (lv_at hl 2 rfl) ?_
        obtain rfl : 0 = v := Option.some.inj (kR_e hK hk1 hk2 c136)
        exact k_iret hC hr hlocks hw [0] rfl rfl ⟨rfl, rfl⟩ (by decide) (by decide) dX12_rests_141
    · have hk2 : kcb 0 0 bo lo ge = false := kcb_f (a1 := 1) (by decide) g_1919 g_1921 c126
      refine lv_goto (tgt := 145) hx hb dX12_rests_129 (by decide) ?_
      refine lv_iinc (v := 1) (lv' := [(6, .int 1), (8, .int 0), (7, .int 0), (5, .int mn), (0, .ref z), (1, .int bo), (2, .int lo), (3, .int ge), (4, .int wh)]) hx hb dX12_rests_145 hl (k := 2) rfl (by decide) (by decide) rfl (fun ls hl => ?_)
      refine lv_goto (tgt := 61) hx hb dX12_rests_148 (by decide) ?_
      exact mrr_3 z z2 z10 z11 z12 z13 z14 z15 z16 z17 z18 z19 z22 z23 z24 z25 z26 z27 z28 z29 z30 z31 z32 z33 z36 z37 z38 z39 z40 z41 z42 z43 z44 z45 z46 z47 z48 z55 z56 z59 z60 z61 n1 n3 n4 n5 n6 n7 n8 n9 n20 n21 n34 n35 n49 n50 n51 n52 n53 n54 n57 n58 n62 n63 bo lo ge wh v mn (kR_n2 hK hk2) hC hr hlocks _ _ hw _ (lv_sub hl [0, 3, 4, 5, 6, 7, 8] rfl)

set_option maxHeartbeats 4000000 in
set_option maxRecDepth 100000 in
theorem c_X12_rests_r (γ : kΓ) (l : Launch) (z : Nat) (z2 : Nat) (z10 : Nat) (z11 : Nat) (z12 : Nat) (z13 : Nat) (z14 : Nat) (z15 : Nat) (z16 : Nat) (z17 : Nat) (z18 : Nat) (z19 : Nat) (z22 : Nat) (z23 : Nat) (z24 : Nat) (z25 : Nat) (z26 : Nat) (z27 : Nat) (z28 : Nat) (z29 : Nat) (z30 : Nat) (z31 : Nat) (z32 : Nat) (z33 : Nat) (z36 : Nat) (z37 : Nat) (z38 : Nat) (z39 : Nat) (z40 : Nat) (z41 : Nat) (z42 : Nat) (z43 : Nat) (z44 : Nat) (z45 : Nat) (z46 : Nat) (z47 : Nat) (z48 : Nat) (z55 : Nat) (z56 : Nat) (z59 : Nat) (z60 : Nat) (z61 : Nat) (n0 : Int32) (n1 : Int32) (n3 : Int32) (n4 : Int32) (n5 : Int32) (n6 : Int32) (n7 : Int64) (n8 : Int32) (n9 : Int32) (n20 : Int32) (n21 : Int32) (n34 : Int32) (n35 : Int64) (n49 : Int32) (n50 : Int32) (n51 : Int32) (n52 : Int32) (n53 : Int32) (n54 : Int32) (n57 : Int32) (n58 : Int32) (n62 : Int32) (n63 : Int64) (bo : Int32) (lo : Int32) (ge : Int32) (wh : Int32) (v : Int32) (hb0 : ¬ bo < 0) (hb1 : ¬ 9 < bo) (hl0 : ¬ lo < 0) (hl1 : ¬ 9 < lo) (hg0 : ¬ ge < 0) (hg1 : ¬ 9 < ge) (hw0 : ¬ wh < -1) (hK : kR bo lo ge wh 4 0 = some v) : kM γ l yX12_rests cX12_rests 9 ((some .int)) ({ frames := 1, cells := 0, slots := 0, locals := 24 } : Room) [.ref z, .int bo, .int lo, .int ge, .int wh] [(z, .inr (11, [.int n0, .int n1, .ref z2, .int n3, .int n4, .int n5, .int n6, .long n7, .int n8, .int n9, .ref z10, .ref z11, .ref z12, .ref z13, .ref z14, .ref z15, .ref z16, .ref z17, .ref z18, .ref z19, .int n20, .int n21, .ref z22, .ref z23, .ref z24, .ref z25, .ref z26, .ref z27, .ref z28, .ref z29, .ref z30, .ref z31, .ref z32, .ref z33, .int n34, .long n35, .ref z36, .ref z37, .ref z38, .ref z39, .ref z40, .ref z41, .ref z42, .ref z43, .ref z44, .ref z45, .ref z46, .ref z47, .ref z48, .int n49, .int n50, .int n51, .int n52, .int n53, .int n54, .ref z55, .ref z56, .int n57, .int n58, .ref z59, .ref z60, .ref z61, .int n62, .long n63]))] (fun r w1 => r = some (.int v) ∧ w1 = [(z, .inr (11, [.int 0, .int n1, .ref z2, .int n3, .int n4, .int n5, .int n6, .long n7, .int n8, .int n9, .ref z10, .ref z11, .ref z12, .ref z13, .ref z14, .ref z15, .ref z16, .ref z17, .ref z18, .ref z19, .int n20, .int n21, .ref z22, .ref z23, .ref z24, .ref z25, .ref z26, .ref z27, .ref z28, .ref z29, .ref z30, .ref z31, .ref z32, .ref z33, .int n34, .long n35, .ref z36, .ref z37, .ref z38, .ref z39, .ref z40, .ref z41, .ref z42, .ref z43, .ref z44, .ref z45, .ref z46, .ref z47, .ref z48, .int n49, .int n50, .int n51, .int n52, .int n53, .int n54, .ref z55, .ref z56, .int n57, .int n58, .ref z59, .ref z60, .ref z61, .int n62, .long n63]))]) := by
  refine k_ofW (by decide) (Nat.le_of_ble_eq_true rfl) ?_
  intro p e s m below meth c A ls hC hr hlocks hname hw hl
  have hx := hC.1
  have hb := hC.2.1
  have hl : lv_has ls 9 [(0, .ref z), (1, .int bo), (2, .int lo), (3, .int ge), (4, .int wh)] := hl
  refine lv_aload_n hx hb dX12_rests_0 rfl (lv_at hl 0 rfl) ?_
  refine lv_iload_n hx hb dX12_rests_1 rfl (lv_at hl 1 rfl) ?_
  refine lv_iconst (v := 0) hx hb dX12_rests_2 (by decide) ?_
  refine lv_bipush (v := 9) hx hb dX12_rests_3 (by decide) ?_
  refine k_S (wr := [(z, .inr (11, [.int n0, .int n1, .ref z2, .int n3, .int n4, .int n5, .int n6, .long n7, .int n8, .int n9, .ref z10, .ref z11, .ref z12, .ref z13, .ref z14, .ref z15, .ref z16, .ref z17, .ref z18, .ref z19, .int n20, .int n21, .ref z22, .ref z23, .ref z24, .ref z25, .ref z26, .ref z27, .ref z28, .ref z29, .ref z30, .ref z31, .ref z32, .ref z33, .int n34, .long n35, .ref z36, .ref z37, .ref z38, .ref z39, .ref z40, .ref z41, .ref z42, .ref z43, .ref z44, .ref z45, .ref z46, .ref z47, .ref z48, .int n49, .int n50, .int n51, .int n52, .int n53, .int n54, .ref z55, .ref z56, .int n57, .int n58, .ref z59, .ref z60, .ref z61, .int n62, .long n63]))]) 3 gw_1472 gw_1473 gw_15 gw_1474 hd_X12_within hC hw (c_within_t γ l bo 0 9 hb0 hb1) ⟨by decide, by decide⟩ ⟨by decide, by decide⟩ hl.1 rfl rfl (Nat.le_of_ble_eq_true rfl) [] [0] rfl rfl rfl rfl (by decide) dX12_rests_5 (fun r w1 H locs hq hw => ?_)
  obtain ⟨rfl, rfl⟩ := hq
  have hw : kW γ A [(z, .inr (11, [.int n0, .int n1, .ref z2, .int n3, .int n4, .int n5, .int n6, .long n7, .int n8, .int n9, .ref z10, .ref z11, .ref z12, .ref z13, .ref z14, .ref z15, .ref z16, .ref z17, .ref z18, .ref z19, .int n20, .int n21, .ref z22, .ref z23, .ref z24, .ref z25, .ref z26, .ref z27, .ref z28, .ref z29, .ref z30, .ref z31, .ref z32, .ref z33, .int n34, .long n35, .ref z36, .ref z37, .ref z38, .ref z39, .ref z40, .ref z41, .ref z42, .ref z43, .ref z44, .ref z45, .ref z46, .ref z47, .ref z48, .int n49, .int n50, .int n51, .int n52, .int n53, .int n54, .ref z55, .ref z56, .int n57, .int n58, .ref z59, .ref z60, .ref z61, .int n62, .long n63]))] s H locs := hw
  refine W.eq (g2 := F0 m 8 ls [.int 1, .ref z]) rfl ?_
  refine lv_if_eq (tgt := 41) hx hb dX12_rests_8 (by decide) (fun h => absurd h (by decide)) (fun _ => ?_)
  refine lv_iload_n hx hb dX12_rests_11 rfl (lv_at hl 2 rfl) ?_
  refine lv_iconst (v := 0) hx hb dX12_rests_12 (by decide) ?_
  refine lv_bipush (v := 9) hx hb dX12_rests_13 (by decide) ?_
  refine k_S (wr := [(z, .inr (11, [.int n0, .int n1, .ref z2, .int n3, .int n4, .int n5, .int n6, .long n7, .int n8, .int n9, .ref z10, .ref z11, .ref z12, .ref z13, .ref z14, .ref z15, .ref z16, .ref z17, .ref z18, .ref z19, .int n20, .int n21, .ref z22, .ref z23, .ref z24, .ref z25, .ref z26, .ref z27, .ref z28, .ref z29, .ref z30, .ref z31, .ref z32, .ref z33, .int n34, .long n35, .ref z36, .ref z37, .ref z38, .ref z39, .ref z40, .ref z41, .ref z42, .ref z43, .ref z44, .ref z45, .ref z46, .ref z47, .ref z48, .int n49, .int n50, .int n51, .int n52, .int n53, .int n54, .ref z55, .ref z56, .int n57, .int n58, .ref z59, .ref z60, .ref z61, .int n62, .long n63]))]) 3 gw_1472 gw_1473 gw_15 gw_1474 hd_X12_within hC hw (c_within_t γ l lo 0 9 hl0 hl1) ⟨by decide, by decide⟩ ⟨by decide, by decide⟩ hl.1 rfl rfl (Nat.le_of_ble_eq_true rfl) [] [0] rfl rfl rfl rfl (by decide) dX12_rests_15 (fun r w1 H locs hq hw => ?_)
  obtain ⟨rfl, rfl⟩ := hq
  have hw : kW γ A [(z, .inr (11, [.int n0, .int n1, .ref z2, .int n3, .int n4, .int n5, .int n6, .long n7, .int n8, .int n9, .ref z10, .ref z11, .ref z12, .ref z13, .ref z14, .ref z15, .ref z16, .ref z17, .ref z18, .ref z19, .int n20, .int n21, .ref z22, .ref z23, .ref z24, .ref z25, .ref z26, .ref z27, .ref z28, .ref z29, .ref z30, .ref z31, .ref z32, .ref z33, .int n34, .long n35, .ref z36, .ref z37, .ref z38, .ref z39, .ref z40, .ref z41, .ref z42, .ref z43, .ref z44, .ref z45, .ref z46, .ref z47, .ref z48, .int n49, .int n50, .int n51, .int n52, .int n53, .int n54, .ref z55, .ref z56, .int n57, .int n58, .ref z59, .ref z60, .ref z61, .int n62, .long n63]))] s H locs := hw
  refine W.eq (g2 := F0 m 18 ls [.int 1, .ref z]) rfl ?_
  refine lv_if_eq (tgt := 41) hx hb dX12_rests_18 (by decide) (fun h => absurd h (by decide)) (fun _ => ?_)
  refine lv_iload_n hx hb dX12_rests_21 rfl (lv_at hl 3 rfl) ?_
  refine lv_iconst (v := 0) hx hb dX12_rests_22 (by decide) ?_
  refine lv_bipush (v := 9) hx hb dX12_rests_23 (by decide) ?_
  refine k_S (wr := [(z, .inr (11, [.int n0, .int n1, .ref z2, .int n3, .int n4, .int n5, .int n6, .long n7, .int n8, .int n9, .ref z10, .ref z11, .ref z12, .ref z13, .ref z14, .ref z15, .ref z16, .ref z17, .ref z18, .ref z19, .int n20, .int n21, .ref z22, .ref z23, .ref z24, .ref z25, .ref z26, .ref z27, .ref z28, .ref z29, .ref z30, .ref z31, .ref z32, .ref z33, .int n34, .long n35, .ref z36, .ref z37, .ref z38, .ref z39, .ref z40, .ref z41, .ref z42, .ref z43, .ref z44, .ref z45, .ref z46, .ref z47, .ref z48, .int n49, .int n50, .int n51, .int n52, .int n53, .int n54, .ref z55, .ref z56, .int n57, .int n58, .ref z59, .ref z60, .ref z61, .int n62, .long n63]))]) 3 gw_1472 gw_1473 gw_15 gw_1474 hd_X12_within hC hw (c_within_t γ l ge 0 9 hg0 hg1) ⟨by decide, by decide⟩ ⟨by decide, by decide⟩ hl.1 rfl rfl (Nat.le_of_ble_eq_true rfl) [] [0] rfl rfl rfl rfl (by decide) dX12_rests_25 (fun r w1 H locs hq hw => ?_)
  obtain ⟨rfl, rfl⟩ := hq
  have hw : kW γ A [(z, .inr (11, [.int n0, .int n1, .ref z2, .int n3, .int n4, .int n5, .int n6, .long n7, .int n8, .int n9, .ref z10, .ref z11, .ref z12, .ref z13, .ref z14, .ref z15, .ref z16, .ref z17, .ref z18, .ref z19, .int n20, .int n21, .ref z22, .ref z23, .ref z24, .ref z25, .ref z26, .ref z27, .ref z28, .ref z29, .ref z30, .ref z31, .ref z32, .ref z33, .int n34, .long n35, .ref z36, .ref z37, .ref z38, .ref z39, .ref z40, .ref z41, .ref z42, .ref z43, .ref z44, .ref z45, .ref z46, .ref z47, .ref z48, .int n49, .int n50, .int n51, .int n52, .int n53, .int n54, .ref z55, .ref z56, .int n57, .int n58, .ref z59, .ref z60, .ref z61, .int n62, .long n63]))] s H locs := hw
  refine W.eq (g2 := F0 m 28 ls [.int 1, .ref z]) rfl ?_
  refine lv_if_eq (tgt := 41) hx hb dX12_rests_28 (by decide) (fun h => absurd h (by decide)) (fun _ => ?_)
  refine lv_iload hx hb dX12_rests_31 (lv_at hl 4 rfl) ?_
  refine lv_iconst (v := (-1)) hx hb dX12_rests_33 (by decide) ?_
  refine lv_icmp_lt (tgt := 41) hx hb dX12_rests_34 (by decide) (fun h => absurd h hw0) (fun _ => ?_)
  refine lv_iconst (v := 0) hx hb dX12_rests_37 (by decide) ?_
  refine lv_goto (tgt := 42) hx hb dX12_rests_38 (by decide) ?_
  refine fs_RX12_143 hC hw 0 rfl rfl rfl (Nat.le_of_ble_eq_true rfl) dX12_rests_42 (fun H locs hw => ?_)
  have hw : kW γ A [(z, .inr (11, [.int 0, .int n1, .ref z2, .int n3, .int n4, .int n5, .int n6, .long n7, .int n8, .int n9, .ref z10, .ref z11, .ref z12, .ref z13, .ref z14, .ref z15, .ref z16, .ref z17, .ref z18, .ref z19, .int n20, .int n21, .ref z22, .ref z23, .ref z24, .ref z25, .ref z26, .ref z27, .ref z28, .ref z29, .ref z30, .ref z31, .ref z32, .ref z33, .int n34, .long n35, .ref z36, .ref z37, .ref z38, .ref z39, .ref z40, .ref z41, .ref z42, .ref z43, .ref z44, .ref z45, .ref z46, .ref z47, .ref z48, .int n49, .int n50, .int n51, .int n52, .int n53, .int n54, .ref z55, .ref z56, .int n57, .int n58, .ref z59, .ref z60, .ref z61, .int n62, .long n63]))] s H locs := hw
  refine lv_aload_n hx hb dX12_rests_45 rfl (lv_at hl 0 rfl) ?_
  refine fg_RX12_143 hC hw 0 rfl rfl dX12_rests_46 ?_
  refine lv_iconst (v := 1) hx hb dX12_rests_49 (by decide) ?_
  refine lv_icmp_ne (tgt := 55) hx hb dX12_rests_50 (by decide) (fun _ => ?_) (fun h => absurd h (by decide))
  refine lv_iconst (v := 0) hx hb dX12_rests_55 (by decide) ?_
  refine lv_istore (lv' := [(5, .int 0), (0, .ref z), (1, .int bo), (2, .int lo), (3, .int ge), (4, .int wh)]) hx hb dX12_rests_56 hl (by decide) rfl (fun ls hl => ?_)
  refine lv_iconst (v := 0) hx hb dX12_rests_58 (by decide) ?_
  refine lv_istore (lv' := [(6, .int 0), (5, .int 0), (0, .ref z), (1, .int bo), (2, .int lo), (3, .int ge), (4, .int wh)]) hx hb dX12_rests_59 hl (by decide) rfl (fun ls hl => ?_)
  exact mrr_4 z z2 z10 z11 z12 z13 z14 z15 z16 z17 z18 z19 z22 z23 z24 z25 z26 z27 z28 z29 z30 z31 z32 z33 z36 z37 z38 z39 z40 z41 z42 z43 z44 z45 z46 z47 z48 z55 z56 z59 z60 z61 n1 n3 n4 n5 n6 n7 n8 n9 n20 n21 n34 n35 n49 n50 n51 n52 n53 n54 n57 n58 n62 n63 bo lo ge wh v 0 hK hC hr hlocks _ _ hw _ (lv_sub hl [0, 1, 2, 3, 4, 5, 6] rfl)

set_option maxHeartbeats 4000000 in
set_option maxRecDepth 100000 in
theorem mrn_0 {γ : kΓ} {l : Launch} {p : Program} {e : Env} {s : State} {m : MethodId} {below : List Frame} {meth : Method} {c : Code} {A : Nat → Prop} (z : Nat) (z2 : Nat) (z10 : Nat) (z11 : Nat) (z12 : Nat) (z13 : Nat) (z14 : Nat) (z15 : Nat) (z16 : Nat) (z17 : Nat) (z18 : Nat) (z19 : Nat) (z22 : Nat) (z23 : Nat) (z24 : Nat) (z25 : Nat) (z26 : Nat) (z27 : Nat) (z28 : Nat) (z29 : Nat) (z30 : Nat) (z31 : Nat) (z32 : Nat) (z33 : Nat) (z36 : Nat) (z37 : Nat) (z38 : Nat) (z39 : Nat) (z40 : Nat) (z41 : Nat) (z42 : Nat) (z43 : Nat) (z44 : Nat) (z45 : Nat) (z46 : Nat) (z47 : Nat) (z48 : Nat) (z55 : Nat) (z56 : Nat) (z59 : Nat) (z60 : Nat) (z61 : Nat) (n1 : Int32) (n3 : Int32) (n4 : Int32) (n5 : Int32) (n6 : Int32) (n7 : Int64) (n8 : Int32) (n9 : Int32) (n20 : Int32) (n21 : Int32) (n34 : Int32) (n35 : Int64) (n49 : Int32) (n50 : Int32) (n51 : Int32) (n52 : Int32) (n53 : Int32) (n54 : Int32) (n57 : Int32) (n58 : Int32) (n62 : Int32) (n63 : Int64) (bo : Int32) (lo : Int32) (ge : Int32) (wh : Int32) (mn : Int32) (hK : kR bo lo ge wh 0 mn = none) (hC : kC γ p s m [.ref z, .int bo, .int lo, .int ge, .int wh].toArray c cX12_rests 9 RX12 A) (hr : meth.sig.returnType = (some .int)) (hlocks : meth.locks = false) (H : Heap) (locs : List Loc) (hw : kW γ A [(z, .inr (11, [.int 0, .int n1, .ref z2, .int n3, .int n4, .int n5, .int n6, .long n7, .int n8, .int n9, .ref z10, .ref z11, .ref z12, .ref z13, .ref z14, .ref z15, .ref z16, .ref z17, .ref z18, .ref z19, .int n20, .int n21, .ref z22, .ref z23, .ref z24, .ref z25, .ref z26, .ref z27, .ref z28, .ref z29, .ref z30, .ref z31, .ref z32, .ref z33, .int n34, .long n35, .ref z36, .ref z37, .ref z38, .ref z39, .ref z40, .ref z41, .ref z42, .ref z43, .ref z44, .ref z45, .ref z46, .ref z47, .ref z48, .int n49, .int n50, .int n51, .int n52, .int n53, .int n54, .ref z55, .ref z56, .int n57, .int n58, .ref z59, .ref z60, .ref z61, .int n62, .long n63]))] s H locs) (ls : Array Slot) (hl : lv_has ls 9 [(6, .int 4), (5, .int mn), (0, .ref z), (1, .int bo), (2, .int lo), (3, .int ge), (4, .int wh)]) : W p l e ({ frames := 1, cells := 0, slots := 0, locals := 24 } : Room) s m [.ref z, .int bo, .int lo, .int ge, .int wh].toArray below meth c H locs 0 0 (MQ below (kQ γ A (fun r w1 => r = some (.int 0) ∧ w1 = [(z, .inr (11, [.int 1, .int n1, .ref z2, .int n3, .int n4, .int n5, .int n6, .long n7, .int n8, .int n9, .ref z10, .ref z11, .ref z12, .ref z13, .ref z14, .ref z15, .ref z16, .ref z17, .ref z18, .ref z19, .int n20, .int n21, .ref z22, .ref z23, .ref z24, .ref z25, .ref z26, .ref z27, .ref z28, .ref z29, .ref z30, .ref z31, .ref z32, .ref z33, .int n34, .long n35, .ref z36, .ref z37, .ref z38, .ref z39, .ref z40, .ref z41, .ref z42, .ref z43, .ref z44, .ref z45, .ref z46, .ref z47, .ref z48, .int n49, .int n50, .int n51, .int n52, .int n53, .int n54, .ref z55, .ref z56, .int n57, .int n58, .ref z59, .ref z60, .ref z61, .int n62, .long n63]))])) [.ref z, .int bo, .int lo, .int ge, .int wh].toArray s 0 0 A) (F0 m 61 ls []) := by
  have hx := hC.1
  have hb := hC.2.1
  have hq := kR_0n hK
  refine lv_iload hx hb dX12_rests_61 (lv_at hl 0 rfl) ?_
  refine lv_iconst (v := 4) hx hb dX12_rests_63 (by decide) ?_
  refine lv_icmp_ge (tgt := 151) hx hb dX12_rests_64 (by decide) (fun _ => ?_) (fun h => absurd (by decide) h)
  refine lv_aload_n hx hb dX12_rests_151 rfl (lv_at hl 2 rfl) ?_
  refine lv_iload hx hb dX12_rests_152 (lv_at hl 6 rfl) ?_
  refine lv_iconst (v := (-1)) hx hb dX12_rests_154 (by decide) ?_
  refine lv_icmp_ne (tgt := 162) hx hb dX12_rests_155 (by decide) (fun _ => ?_) (fun h => absurd h hq)
  refine lv_iconst (v := 1) hx hb dX12_rests_162 (by decide) ?_
  refine fs_RX12_143 hC hw 0 rfl rfl rfl (Nat.le_of_ble_eq_true rfl) dX12_rests_163 (fun H locs hw => ?_)
  have hw : kW γ A [(z, .inr (11, [.int 1, .int n1, .ref z2, .int n3, .int n4, .int n5, .int n6, .long n7, .int n8, .int n9, .ref z10, .ref z11, .ref z12, .ref z13, .ref z14, .ref z15, .ref z16, .ref z17, .ref z18, .ref z19, .int n20, .int n21, .ref z22, .ref z23, .ref z24, .ref z25, .ref z26, .ref z27, .ref z28, .ref z29, .ref z30, .ref z31, .ref z32, .ref z33, .int n34, .long n35, .ref z36, .ref z37, .ref z38, .ref z39, .ref z40, .ref z41, .ref z42, .ref z43, .ref z44, .ref z45, .ref z46, .ref z47, .ref z48, .int n49, .int n50, .int n51, .int n52, .int n53, .int n54, .ref z55, .ref z56, .int n57, .int n58, .ref z59, .ref z60, .ref z61, .int n62, .long n63]))] s H locs := hw
  refine lv_iload hx hb dX12_rests_166 (lv_at hl 6 rfl) ?_
  refine lv_iconst (v := (-1)) hx hb dX12_rests_168 (by decide) ?_
  refine lv_icmp_ne (tgt := 177) hx hb dX12_rests_169 (by decide) (fun _ => ?_) (fun h => absurd h hq)
  refine lv_iconst (v := 0) hx hb dX12_rests_177 (by decide) ?_
  exact k_iret hC hr hlocks hw [0] rfl rfl ⟨rfl, rfl⟩ (by decide) (by decide) dX12_rests_178

set_option maxHeartbeats 4000000 in
set_option maxRecDepth 100000 in
theorem mrn_1 {γ : kΓ} {l : Launch} {p : Program} {e : Env} {s : State} {m : MethodId} {below : List Frame} {meth : Method} {c : Code} {A : Nat → Prop} (z : Nat) (z2 : Nat) (z10 : Nat) (z11 : Nat) (z12 : Nat) (z13 : Nat) (z14 : Nat) (z15 : Nat) (z16 : Nat) (z17 : Nat) (z18 : Nat) (z19 : Nat) (z22 : Nat) (z23 : Nat) (z24 : Nat) (z25 : Nat) (z26 : Nat) (z27 : Nat) (z28 : Nat) (z29 : Nat) (z30 : Nat) (z31 : Nat) (z32 : Nat) (z33 : Nat) (z36 : Nat) (z37 : Nat) (z38 : Nat) (z39 : Nat) (z40 : Nat) (z41 : Nat) (z42 : Nat) (z43 : Nat) (z44 : Nat) (z45 : Nat) (z46 : Nat) (z47 : Nat) (z48 : Nat) (z55 : Nat) (z56 : Nat) (z59 : Nat) (z60 : Nat) (z61 : Nat) (n1 : Int32) (n3 : Int32) (n4 : Int32) (n5 : Int32) (n6 : Int32) (n7 : Int64) (n8 : Int32) (n9 : Int32) (n20 : Int32) (n21 : Int32) (n34 : Int32) (n35 : Int64) (n49 : Int32) (n50 : Int32) (n51 : Int32) (n52 : Int32) (n53 : Int32) (n54 : Int32) (n57 : Int32) (n58 : Int32) (n62 : Int32) (n63 : Int64) (bo : Int32) (lo : Int32) (ge : Int32) (wh : Int32) (mn : Int32) (hK : kR bo lo ge wh 1 mn = none) (hC : kC γ p s m [.ref z, .int bo, .int lo, .int ge, .int wh].toArray c cX12_rests 9 RX12 A) (hr : meth.sig.returnType = (some .int)) (hlocks : meth.locks = false) (H : Heap) (locs : List Loc) (hw : kW γ A [(z, .inr (11, [.int 0, .int n1, .ref z2, .int n3, .int n4, .int n5, .int n6, .long n7, .int n8, .int n9, .ref z10, .ref z11, .ref z12, .ref z13, .ref z14, .ref z15, .ref z16, .ref z17, .ref z18, .ref z19, .int n20, .int n21, .ref z22, .ref z23, .ref z24, .ref z25, .ref z26, .ref z27, .ref z28, .ref z29, .ref z30, .ref z31, .ref z32, .ref z33, .int n34, .long n35, .ref z36, .ref z37, .ref z38, .ref z39, .ref z40, .ref z41, .ref z42, .ref z43, .ref z44, .ref z45, .ref z46, .ref z47, .ref z48, .int n49, .int n50, .int n51, .int n52, .int n53, .int n54, .ref z55, .ref z56, .int n57, .int n58, .ref z59, .ref z60, .ref z61, .int n62, .long n63]))] s H locs) (ls : Array Slot) (hl : lv_has ls 9 [(6, .int 3), (5, .int mn), (0, .ref z), (1, .int bo), (2, .int lo), (3, .int ge), (4, .int wh)]) : W p l e ({ frames := 1, cells := 0, slots := 0, locals := 24 } : Room) s m [.ref z, .int bo, .int lo, .int ge, .int wh].toArray below meth c H locs 0 0 (MQ below (kQ γ A (fun r w1 => r = some (.int 0) ∧ w1 = [(z, .inr (11, [.int 1, .int n1, .ref z2, .int n3, .int n4, .int n5, .int n6, .long n7, .int n8, .int n9, .ref z10, .ref z11, .ref z12, .ref z13, .ref z14, .ref z15, .ref z16, .ref z17, .ref z18, .ref z19, .int n20, .int n21, .ref z22, .ref z23, .ref z24, .ref z25, .ref z26, .ref z27, .ref z28, .ref z29, .ref z30, .ref z31, .ref z32, .ref z33, .int n34, .long n35, .ref z36, .ref z37, .ref z38, .ref z39, .ref z40, .ref z41, .ref z42, .ref z43, .ref z44, .ref z45, .ref z46, .ref z47, .ref z48, .int n49, .int n50, .int n51, .int n52, .int n53, .int n54, .ref z55, .ref z56, .int n57, .int n58, .ref z59, .ref z60, .ref z61, .int n62, .long n63]))])) [.ref z, .int bo, .int lo, .int ge, .int wh].toArray s 0 0 A) (F0 m 61 ls []) := by
  have hx := hC.1
  have hb := hC.2.1
  refine lv_iload hx hb dX12_rests_61 (lv_at hl 0 rfl) ?_
  refine lv_iconst (v := 4) hx hb dX12_rests_63 (by decide) ?_
  refine lv_icmp_ge (tgt := 151) hx hb dX12_rests_64 (by decide) (fun h => absurd h (by decide)) (fun _ => ?_)
  refine lv_iload hx hb dX12_rests_67 (lv_at hl 0 rfl) ?_
  refine lv_iconst (v := 2) hx hb dX12_rests_69 (by decide) ?_
  refine lv_idiv hx hb dX12_rests_70 (by decide) ?_
  refine lv_topi (fun x_1970 ex_1970 => ?_)
  obtain rfl : x_1970 = 1 := ex_1970.trans (by decide)
  refine lv_istore (lv' := [(7, .int 1), (6, .int 3), (5, .int mn), (0, .ref z), (1, .int bo), (2, .int lo), (3, .int ge), (4, .int wh)]) hx hb dX12_rests_71 hl (by decide) rfl (fun ls hl => ?_)
  refine lv_iload hx hb dX12_rests_73 (lv_at hl 1 rfl) ?_
  refine lv_iconst (v := 2) hx hb dX12_rests_75 (by decide) ?_
  refine lv_irem hx hb dX12_rests_76 (by decide) ?_
  refine lv_topi (fun x_1971 ex_1971 => ?_)
  obtain rfl : x_1971 = 1 := ex_1971.trans (by decide)
  refine lv_istore (lv' := [(8, .int 1), (7, .int 1), (6, .int 3), (5, .int mn), (0, .ref z), (1, .int bo), (2, .int lo), (3, .int ge), (4, .int wh)]) hx hb dX12_rests_77 hl (by decide) rfl (fun ls hl => ?_)
  refine lv_iload_n hx hb dX12_rests_79 rfl (lv_at hl 5 rfl) ?_
  refine lv_iload_n hx hb dX12_rests_80 rfl (lv_at hl 6 rfl) ?_
  refine lv_iload_n hx hb dX12_rests_81 rfl (lv_at hl 7 rfl) ?_
  refine lv_iconst (v := 1) hx hb dX12_rests_82 (by decide) ?_
  refine lv_iload hx hb dX12_rests_83 (lv_at hl 1 rfl) ?_
  refine lv_isub hx hb dX12_rests_85 ?_
  refine lv_topi (fun x_1972 ex_1972 => ?_)
  obtain rfl : x_1972 = 0 := ex_1972.trans (by decide)
  refine lv_iload hx hb dX12_rests_86 (lv_at hl 0 rfl) ?_
  refine k_S (wr := [(z, .inr (11, [.int 0, .int n1, .ref z2, .int n3, .int n4, .int n5, .int n6, .long n7, .int n8, .int n9, .ref z10, .ref z11, .ref z12, .ref z13, .ref z14, .ref z15, .ref z16, .ref z17, .ref z18, .ref z19, .int n20, .int n21, .ref z22, .ref z23, .ref z24, .ref z25, .ref z26, .ref z27, .ref z28, .ref z29, .ref z30, .ref z31, .ref z32, .ref z33, .int n34, .long n35, .ref z36, .ref z37, .ref z38, .ref z39, .ref z40, .ref z41, .ref z42, .ref z43, .ref z44, .ref z45, .ref z46, .ref z47, .ref z48, .int n49, .int n50, .int n51, .int n52, .int n53, .int n54, .ref z55, .ref z56, .int n57, .int n58, .ref z59, .ref z60, .ref z61, .int n62, .long n63]))]) 5 gw_1784 gw_1785 gw_15 gw_1786 hd_X12_getsBy hC hw (c_X12_getsBy γ l bo lo ge 0 1) ⟨by decide, by decide⟩ ⟨by decide, by decide⟩ hl.1 rfl rfl (Nat.le_of_ble_eq_true rfl) [] [0] rfl rfl rfl rfl (by decide) dX12_rests_88 (fun r w1 H locs hq hw => ?_)
  obtain ⟨r9_1973, rfl, rfl, g_1974⟩ := hq
  have hw : kW γ A [(z, .inr (11, [.int 0, .int n1, .ref z2, .int n3, .int n4, .int n5, .int n6, .long n7, .int n8, .int n9, .ref z10, .ref z11, .ref z12, .ref z13, .ref z14, .ref z15, .ref z16, .ref z17, .ref z18, .ref z19, .int n20, .int n21, .ref z22, .ref z23, .ref z24, .ref z25, .ref z26, .ref z27, .ref z28, .ref z29, .ref z30, .ref z31, .ref z32, .ref z33, .int n34, .long n35, .ref z36, .ref z37, .ref z38, .ref z39, .ref z40, .ref z41, .ref z42, .ref z43, .ref z44, .ref z45, .ref z46, .ref z47, .ref z48, .int n49, .int n50, .int n51, .int n52, .int n53, .int n54, .ref z55, .ref z56, .int n57, .int n58, .ref z59, .ref z60, .ref z61, .int n62, .long n63]))] s H locs := hw
  refine W.eq (g2 := F0 m 91 ls [.int r9_1973]) rfl ?_
  refine lv_iload_n hx hb dX12_rests_91 rfl (lv_at hl 5 rfl) ?_
  refine lv_iload_n hx hb dX12_rests_92 rfl (lv_at hl 6 rfl) ?_
  refine lv_iload_n hx hb dX12_rests_93 rfl (lv_at hl 7 rfl) ?_
  refine lv_iload hx hb dX12_rests_94 (lv_at hl 1 rfl) ?_
  refine lv_iload hx hb dX12_rests_96 (lv_at hl 0 rfl) ?_
  refine k_S (wr := [(z, .inr (11, [.int 0, .int n1, .ref z2, .int n3, .int n4, .int n5, .int n6, .long n7, .int n8, .int n9, .ref z10, .ref z11, .ref z12, .ref z13, .ref z14, .ref z15, .ref z16, .ref z17, .ref z18, .ref z19, .int n20, .int n21, .ref z22, .ref z23, .ref z24, .ref z25, .ref z26, .ref z27, .ref z28, .ref z29, .ref z30, .ref z31, .ref z32, .ref z33, .int n34, .long n35, .ref z36, .ref z37, .ref z38, .ref z39, .ref z40, .ref z41, .ref z42, .ref z43, .ref z44, .ref z45, .ref z46, .ref z47, .ref z48, .int n49, .int n50, .int n51, .int n52, .int n53, .int n54, .ref z55, .ref z56, .int n57, .int n58, .ref z59, .ref z60, .ref z61, .int n62, .long n63]))]) 5 gw_1784 gw_1785 gw_15 gw_1786 hd_X12_getsBy hC hw (c_X12_getsBy γ l bo lo ge 1 1) ⟨by decide, by decide⟩ ⟨by decide, by decide⟩ hl.1 rfl rfl (Nat.le_of_ble_eq_true rfl) [] [0] rfl rfl rfl rfl (by decide) dX12_rests_98 (fun r w1 H locs hq hw => ?_)
  obtain ⟨r9_1975, rfl, rfl, g_1976⟩ := hq
  have hw : kW γ A [(z, .inr (11, [.int 0, .int n1, .ref z2, .int n3, .int n4, .int n5, .int n6, .long n7, .int n8, .int n9, .ref z10, .ref z11, .ref z12, .ref z13, .ref z14, .ref z15, .ref z16, .ref z17, .ref z18, .ref z19, .int n20, .int n21, .ref z22, .ref z23, .ref z24, .ref z25, .ref z26, .ref z27, .ref z28, .ref z29, .ref z30, .ref z31, .ref z32, .ref z33, .int n34, .long n35, .ref z36, .ref z37, .ref z38, .ref z39, .ref z40, .ref z41, .ref z42, .ref z43, .ref z44, .ref z45, .ref z46, .ref z47, .ref z48, .int n49, .int n50, .int n51, .int n52, .int n53, .int n54, .ref z55, .ref z56, .int n57, .int n58, .ref z59, .ref z60, .ref z61, .int n62, .long n63]))] s H locs := hw
  refine W.eq (g2 := F0 m 101 ls [.int r9_1975, .int r9_1973]) rfl ?_
  refine lv_icmp_gt (tgt := 145) hx hb dX12_rests_101 (by decide) (fun c101 => ?_) (fun c101 => ?_)
  · have hk1 : kcb 1 1 bo lo ge = false := kcb_f (a1 := 0) (by decide) g_1974 g_1976 (Int32.not_le.mpr c101)
    refine lv_iinc (v := 4) (lv' := [(6, .int 4), (8, .int 1), (7, .int 1), (5, .int mn), (0, .ref z), (1, .int bo), (2, .int lo), (3, .int ge), (4, .int wh)]) hx hb dX12_rests_145 hl (k := 2) rfl (by decide) (by decide) rfl (fun ls hl => ?_)
    refine lv_goto (tgt := 61) hx hb dX12_rests_148 (by decide) ?_
    exact mrn_0 z z2 z10 z11 z12 z13 z14 z15 z16 z17 z18 z19 z22 z23 z24 z25 z26 z27 z28 z29 z30 z31 z32 z33 z36 z37 z38 z39 z40 z41 z42 z43 z44 z45 z46 z47 z48 z55 z56 z59 z60 z61 n1 n3 n4 n5 n6 n7 n8 n9 n20 n21 n34 n35 n49 n50 n51 n52 n53 n54 n57 n58 n62 n63 bo lo ge wh mn (kR_n1 hK hk1) hC hr hlocks _ _ hw _ (lv_sub hl [0, 3, 4, 5, 6, 7, 8] rfl)
  · have hk1 : kcb 1 1 bo lo ge = true := kcb_t (a1 := 0) (by decide) g_1974 g_1976 (Int32.not_lt.mp c101)
    refine lv_iload_n hx hb dX12_rests_104 rfl (lv_at hl 5 rfl) ?_
    refine lv_iload_n hx hb dX12_rests_105 rfl (lv_at hl 6 rfl) ?_
    refine lv_iload_n hx hb dX12_rests_106 rfl (lv_at hl 7 rfl) ?_
    refine lv_iconst (v := 1) hx hb dX12_rests_107 (by decide) ?_
    refine lv_iload hx hb dX12_rests_108 (lv_at hl 0 rfl) ?_
    refine lv_isub hx hb dX12_rests_110 ?_
    refine lv_topi (fun x_1977 ex_1977 => ?_)
    obtain rfl : x_1977 = 0 := ex_1977.trans (by decide)
    refine lv_iload hx hb dX12_rests_111 (lv_at hl 1 rfl) ?_
    refine k_S (wr := [(z, .inr (11, [.int 0, .int n1, .ref z2, .int n3, .int n4, .int n5, .int n6, .long n7, .int n8, .int n9, .ref z10, .ref z11, .ref z12, .ref z13, .ref z14, .ref z15, .ref z16, .ref z17, .ref z18, .ref z19, .int n20, .int n21, .ref z22, .ref z23, .ref z24, .ref z25, .ref z26, .ref z27, .ref z28, .ref z29, .ref z30, .ref z31, .ref z32, .ref z33, .int n34, .long n35, .ref z36, .ref z37, .ref z38, .ref z39, .ref z40, .ref z41, .ref z42, .ref z43, .ref z44, .ref z45, .ref z46, .ref z47, .ref z48, .int n49, .int n50, .int n51, .int n52, .int n53, .int n54, .ref z55, .ref z56, .int n57, .int n58, .ref z59, .ref z60, .ref z61, .int n62, .long n63]))]) 5 gw_1784 gw_1785 gw_15 gw_1786 hd_X12_getsBy hC hw (c_X12_getsBy γ l bo lo ge 0 1) ⟨by decide, by decide⟩ ⟨by decide, by decide⟩ hl.1 rfl rfl (Nat.le_of_ble_eq_true rfl) [] [0] rfl rfl rfl rfl (by decide) dX12_rests_113 (fun r w1 H locs hq hw => ?_)
    obtain ⟨r9_1978, rfl, rfl, g_1979⟩ := hq
    have hw : kW γ A [(z, .inr (11, [.int 0, .int n1, .ref z2, .int n3, .int n4, .int n5, .int n6, .long n7, .int n8, .int n9, .ref z10, .ref z11, .ref z12, .ref z13, .ref z14, .ref z15, .ref z16, .ref z17, .ref z18, .ref z19, .int n20, .int n21, .ref z22, .ref z23, .ref z24, .ref z25, .ref z26, .ref z27, .ref z28, .ref z29, .ref z30, .ref z31, .ref z32, .ref z33, .int n34, .long n35, .ref z36, .ref z37, .ref z38, .ref z39, .ref z40, .ref z41, .ref z42, .ref z43, .ref z44, .ref z45, .ref z46, .ref z47, .ref z48, .int n49, .int n50, .int n51, .int n52, .int n53, .int n54, .ref z55, .ref z56, .int n57, .int n58, .ref z59, .ref z60, .ref z61, .int n62, .long n63]))] s H locs := hw
    refine W.eq (g2 := F0 m 116 ls [.int r9_1978]) rfl ?_
    refine lv_iload_n hx hb dX12_rests_116 rfl (lv_at hl 5 rfl) ?_
    refine lv_iload_n hx hb dX12_rests_117 rfl (lv_at hl 6 rfl) ?_
    refine lv_iload_n hx hb dX12_rests_118 rfl (lv_at hl 7 rfl) ?_
    refine lv_iload hx hb dX12_rests_119 (lv_at hl 0 rfl) ?_
    refine lv_iload hx hb dX12_rests_121 (lv_at hl 1 rfl) ?_
    refine k_S (wr := [(z, .inr (11, [.int 0, .int n1, .ref z2, .int n3, .int n4, .int n5, .int n6, .long n7, .int n8, .int n9, .ref z10, .ref z11, .ref z12, .ref z13, .ref z14, .ref z15, .ref z16, .ref z17, .ref z18, .ref z19, .int n20, .int n21, .ref z22, .ref z23, .ref z24, .ref z25, .ref z26, .ref z27, .ref z28, .ref z29, .ref z30, .ref z31, .ref z32, .ref z33, .int n34, .long n35, .ref z36, .ref z37, .ref z38, .ref z39, .ref z40, .ref z41, .ref z42, .ref z43, .ref z44, .ref z45, .ref z46, .ref z47, .ref z48, .int n49, .int n50, .int n51, .int n52, .int n53, .int n54, .ref z55, .ref z56, .int n57, .int n58, .ref z59, .ref z60, .ref z61, .int n62, .long n63]))]) 5 gw_1784 gw_1785 gw_15 gw_1786 hd_X12_getsBy hC hw (c_X12_getsBy γ l bo lo ge 1 1) ⟨by decide, by decide⟩ ⟨by decide, by decide⟩ hl.1 rfl rfl (Nat.le_of_ble_eq_true rfl) [] [0] rfl rfl rfl rfl (by decide) dX12_rests_123 (fun r w1 H locs hq hw => ?_)
    obtain ⟨r9_1980, rfl, rfl, g_1981⟩ := hq
    have hw : kW γ A [(z, .inr (11, [.int 0, .int n1, .ref z2, .int n3, .int n4, .int n5, .int n6, .long n7, .int n8, .int n9, .ref z10, .ref z11, .ref z12, .ref z13, .ref z14, .ref z15, .ref z16, .ref z17, .ref z18, .ref z19, .int n20, .int n21, .ref z22, .ref z23, .ref z24, .ref z25, .ref z26, .ref z27, .ref z28, .ref z29, .ref z30, .ref z31, .ref z32, .ref z33, .int n34, .long n35, .ref z36, .ref z37, .ref z38, .ref z39, .ref z40, .ref z41, .ref z42, .ref z43, .ref z44, .ref z45, .ref z46, .ref z47, .ref z48, .int n49, .int n50, .int n51, .int n52, .int n53, .int n54, .ref z55, .ref z56, .int n57, .int n58, .ref z59, .ref z60, .ref z61, .int n62, .long n63]))] s H locs := hw
    refine W.eq (g2 := F0 m 126 ls [.int r9_1980, .int r9_1978]) rfl ?_
    refine lv_icmp_le (tgt := 132) hx hb dX12_rests_126 (by decide) (fun c126 => ?_) (fun c126 => ?_)
    · have hk2 : kcb 1 1 bo lo ge = true := kcb_t (a1 := 0) (by decide) g_1979 g_1981 c126
      refine lv_iload hx hb dX12_rests_132 (lv_at hl 3 rfl) ?_
      refine lv_iload hx hb dX12_rests_134 (lv_at hl 8 rfl) ?_
      refine lv_icmp_ne (tgt := 142) hx hb dX12_rests_136 (by decide) (fun c136 => ?_) (fun c136 => ?_)
      · refine lv_iinc (v := (mn + 1)) (lv' := [(5, .int (mn + 1)), (8, .int 1), (7, .int 1), (6, .int 3), (0, .ref z), (1, .int bo), (2, .int lo), (3, .int ge), (4, .int wh)]) hx hb dX12_rests_142 hl (k := 3) rfl rfl (by decide) rfl (fun ls hl => ?_)
        refine lv_iinc (v := 4) (lv' := [(6, .int 4), (5, .int (mn + 1)), (8, .int 1), (7, .int 1), (0, .ref z), (1, .int bo), (2, .int lo), (3, .int ge), (4, .int wh)]) hx hb dX12_rests_145 hl (k := 3) rfl (by decide) (by decide) rfl (fun ls hl => ?_)
        refine lv_goto (tgt := 61) hx hb dX12_rests_148 (by decide) ?_
        exact mrn_0 z z2 z10 z11 z12 z13 z14 z15 z16 z17 z18 z19 z22 z23 z24 z25 z26 z27 z28 z29 z30 z31 z32 z33 z36 z37 z38 z39 z40 z41 z42 z43 z44 z45 z46 z47 z48 z55 z56 z59 z60 z61 n1 n3 n4 n5 n6 n7 n8 n9 n20 n21 n34 n35 n49 n50 n51 n52 n53 n54 n57 n58 n62 n63 bo lo ge wh (mn + 1) (kR_c hK hk1 hk2 c136) hC hr hlocks _ _ hw _ (lv_sub hl [0, 1, 4, 5, 6, 7, 8] rfl)
      · refine lv_iload hx hb dX12_rests_139 (lv_at hl 2 rfl) ?_
        exact absurd (kR_e hK hk1 hk2 c136) (by simp)
    · have hk2 : kcb 1 1 bo lo ge = false := kcb_f (a1 := 0) (by decide) g_1979 g_1981 c126
      refine lv_goto (tgt := 145) hx hb dX12_rests_129 (by decide) ?_
      refine lv_iinc (v := 4) (lv' := [(6, .int 4), (8, .int 1), (7, .int 1), (5, .int mn), (0, .ref z), (1, .int bo), (2, .int lo), (3, .int ge), (4, .int wh)]) hx hb dX12_rests_145 hl (k := 2) rfl (by decide) (by decide) rfl (fun ls hl => ?_)
      refine lv_goto (tgt := 61) hx hb dX12_rests_148 (by decide) ?_
      exact mrn_0 z z2 z10 z11 z12 z13 z14 z15 z16 z17 z18 z19 z22 z23 z24 z25 z26 z27 z28 z29 z30 z31 z32 z33 z36 z37 z38 z39 z40 z41 z42 z43 z44 z45 z46 z47 z48 z55 z56 z59 z60 z61 n1 n3 n4 n5 n6 n7 n8 n9 n20 n21 n34 n35 n49 n50 n51 n52 n53 n54 n57 n58 n62 n63 bo lo ge wh mn (kR_n2 hK hk2) hC hr hlocks _ _ hw _ (lv_sub hl [0, 3, 4, 5, 6, 7, 8] rfl)

set_option maxHeartbeats 4000000 in
set_option maxRecDepth 100000 in
theorem mrn_2 {γ : kΓ} {l : Launch} {p : Program} {e : Env} {s : State} {m : MethodId} {below : List Frame} {meth : Method} {c : Code} {A : Nat → Prop} (z : Nat) (z2 : Nat) (z10 : Nat) (z11 : Nat) (z12 : Nat) (z13 : Nat) (z14 : Nat) (z15 : Nat) (z16 : Nat) (z17 : Nat) (z18 : Nat) (z19 : Nat) (z22 : Nat) (z23 : Nat) (z24 : Nat) (z25 : Nat) (z26 : Nat) (z27 : Nat) (z28 : Nat) (z29 : Nat) (z30 : Nat) (z31 : Nat) (z32 : Nat) (z33 : Nat) (z36 : Nat) (z37 : Nat) (z38 : Nat) (z39 : Nat) (z40 : Nat) (z41 : Nat) (z42 : Nat) (z43 : Nat) (z44 : Nat) (z45 : Nat) (z46 : Nat) (z47 : Nat) (z48 : Nat) (z55 : Nat) (z56 : Nat) (z59 : Nat) (z60 : Nat) (z61 : Nat) (n1 : Int32) (n3 : Int32) (n4 : Int32) (n5 : Int32) (n6 : Int32) (n7 : Int64) (n8 : Int32) (n9 : Int32) (n20 : Int32) (n21 : Int32) (n34 : Int32) (n35 : Int64) (n49 : Int32) (n50 : Int32) (n51 : Int32) (n52 : Int32) (n53 : Int32) (n54 : Int32) (n57 : Int32) (n58 : Int32) (n62 : Int32) (n63 : Int64) (bo : Int32) (lo : Int32) (ge : Int32) (wh : Int32) (mn : Int32) (hK : kR bo lo ge wh 2 mn = none) (hC : kC γ p s m [.ref z, .int bo, .int lo, .int ge, .int wh].toArray c cX12_rests 9 RX12 A) (hr : meth.sig.returnType = (some .int)) (hlocks : meth.locks = false) (H : Heap) (locs : List Loc) (hw : kW γ A [(z, .inr (11, [.int 0, .int n1, .ref z2, .int n3, .int n4, .int n5, .int n6, .long n7, .int n8, .int n9, .ref z10, .ref z11, .ref z12, .ref z13, .ref z14, .ref z15, .ref z16, .ref z17, .ref z18, .ref z19, .int n20, .int n21, .ref z22, .ref z23, .ref z24, .ref z25, .ref z26, .ref z27, .ref z28, .ref z29, .ref z30, .ref z31, .ref z32, .ref z33, .int n34, .long n35, .ref z36, .ref z37, .ref z38, .ref z39, .ref z40, .ref z41, .ref z42, .ref z43, .ref z44, .ref z45, .ref z46, .ref z47, .ref z48, .int n49, .int n50, .int n51, .int n52, .int n53, .int n54, .ref z55, .ref z56, .int n57, .int n58, .ref z59, .ref z60, .ref z61, .int n62, .long n63]))] s H locs) (ls : Array Slot) (hl : lv_has ls 9 [(6, .int 2), (5, .int mn), (0, .ref z), (1, .int bo), (2, .int lo), (3, .int ge), (4, .int wh)]) : W p l e ({ frames := 1, cells := 0, slots := 0, locals := 24 } : Room) s m [.ref z, .int bo, .int lo, .int ge, .int wh].toArray below meth c H locs 0 0 (MQ below (kQ γ A (fun r w1 => r = some (.int 0) ∧ w1 = [(z, .inr (11, [.int 1, .int n1, .ref z2, .int n3, .int n4, .int n5, .int n6, .long n7, .int n8, .int n9, .ref z10, .ref z11, .ref z12, .ref z13, .ref z14, .ref z15, .ref z16, .ref z17, .ref z18, .ref z19, .int n20, .int n21, .ref z22, .ref z23, .ref z24, .ref z25, .ref z26, .ref z27, .ref z28, .ref z29, .ref z30, .ref z31, .ref z32, .ref z33, .int n34, .long n35, .ref z36, .ref z37, .ref z38, .ref z39, .ref z40, .ref z41, .ref z42, .ref z43, .ref z44, .ref z45, .ref z46, .ref z47, .ref z48, .int n49, .int n50, .int n51, .int n52, .int n53, .int n54, .ref z55, .ref z56, .int n57, .int n58, .ref z59, .ref z60, .ref z61, .int n62, .long n63]))])) [.ref z, .int bo, .int lo, .int ge, .int wh].toArray s 0 0 A) (F0 m 61 ls []) := by
  have hx := hC.1
  have hb := hC.2.1
  refine lv_iload hx hb dX12_rests_61 (lv_at hl 0 rfl) ?_
  refine lv_iconst (v := 4) hx hb dX12_rests_63 (by decide) ?_
  refine lv_icmp_ge (tgt := 151) hx hb dX12_rests_64 (by decide) (fun h => absurd h (by decide)) (fun _ => ?_)
  refine lv_iload hx hb dX12_rests_67 (lv_at hl 0 rfl) ?_
  refine lv_iconst (v := 2) hx hb dX12_rests_69 (by decide) ?_
  refine lv_idiv hx hb dX12_rests_70 (by decide) ?_
  refine lv_topi (fun x_1982 ex_1982 => ?_)
  obtain rfl : x_1982 = 1 := ex_1982.trans (by decide)
  refine lv_istore (lv' := [(7, .int 1), (6, .int 2), (5, .int mn), (0, .ref z), (1, .int bo), (2, .int lo), (3, .int ge), (4, .int wh)]) hx hb dX12_rests_71 hl (by decide) rfl (fun ls hl => ?_)
  refine lv_iload hx hb dX12_rests_73 (lv_at hl 1 rfl) ?_
  refine lv_iconst (v := 2) hx hb dX12_rests_75 (by decide) ?_
  refine lv_irem hx hb dX12_rests_76 (by decide) ?_
  refine lv_topi (fun x_1983 ex_1983 => ?_)
  obtain rfl : x_1983 = 0 := ex_1983.trans (by decide)
  refine lv_istore (lv' := [(8, .int 0), (7, .int 1), (6, .int 2), (5, .int mn), (0, .ref z), (1, .int bo), (2, .int lo), (3, .int ge), (4, .int wh)]) hx hb dX12_rests_77 hl (by decide) rfl (fun ls hl => ?_)
  refine lv_iload_n hx hb dX12_rests_79 rfl (lv_at hl 5 rfl) ?_
  refine lv_iload_n hx hb dX12_rests_80 rfl (lv_at hl 6 rfl) ?_
  refine lv_iload_n hx hb dX12_rests_81 rfl (lv_at hl 7 rfl) ?_
  refine lv_iconst (v := 1) hx hb dX12_rests_82 (by decide) ?_
  refine lv_iload hx hb dX12_rests_83 (lv_at hl 1 rfl) ?_
  refine lv_isub hx hb dX12_rests_85 ?_
  refine lv_topi (fun x_1984 ex_1984 => ?_)
  obtain rfl : x_1984 = 0 := ex_1984.trans (by decide)
  refine lv_iload hx hb dX12_rests_86 (lv_at hl 0 rfl) ?_
  refine k_S (wr := [(z, .inr (11, [.int 0, .int n1, .ref z2, .int n3, .int n4, .int n5, .int n6, .long n7, .int n8, .int n9, .ref z10, .ref z11, .ref z12, .ref z13, .ref z14, .ref z15, .ref z16, .ref z17, .ref z18, .ref z19, .int n20, .int n21, .ref z22, .ref z23, .ref z24, .ref z25, .ref z26, .ref z27, .ref z28, .ref z29, .ref z30, .ref z31, .ref z32, .ref z33, .int n34, .long n35, .ref z36, .ref z37, .ref z38, .ref z39, .ref z40, .ref z41, .ref z42, .ref z43, .ref z44, .ref z45, .ref z46, .ref z47, .ref z48, .int n49, .int n50, .int n51, .int n52, .int n53, .int n54, .ref z55, .ref z56, .int n57, .int n58, .ref z59, .ref z60, .ref z61, .int n62, .long n63]))]) 5 gw_1784 gw_1785 gw_15 gw_1786 hd_X12_getsBy hC hw (c_X12_getsBy γ l bo lo ge 0 0) ⟨by decide, by decide⟩ ⟨by decide, by decide⟩ hl.1 rfl rfl (Nat.le_of_ble_eq_true rfl) [] [0] rfl rfl rfl rfl (by decide) dX12_rests_88 (fun r w1 H locs hq hw => ?_)
  obtain ⟨r9_1985, rfl, rfl, g_1986⟩ := hq
  have hw : kW γ A [(z, .inr (11, [.int 0, .int n1, .ref z2, .int n3, .int n4, .int n5, .int n6, .long n7, .int n8, .int n9, .ref z10, .ref z11, .ref z12, .ref z13, .ref z14, .ref z15, .ref z16, .ref z17, .ref z18, .ref z19, .int n20, .int n21, .ref z22, .ref z23, .ref z24, .ref z25, .ref z26, .ref z27, .ref z28, .ref z29, .ref z30, .ref z31, .ref z32, .ref z33, .int n34, .long n35, .ref z36, .ref z37, .ref z38, .ref z39, .ref z40, .ref z41, .ref z42, .ref z43, .ref z44, .ref z45, .ref z46, .ref z47, .ref z48, .int n49, .int n50, .int n51, .int n52, .int n53, .int n54, .ref z55, .ref z56, .int n57, .int n58, .ref z59, .ref z60, .ref z61, .int n62, .long n63]))] s H locs := hw
  refine W.eq (g2 := F0 m 91 ls [.int r9_1985]) rfl ?_
  refine lv_iload_n hx hb dX12_rests_91 rfl (lv_at hl 5 rfl) ?_
  refine lv_iload_n hx hb dX12_rests_92 rfl (lv_at hl 6 rfl) ?_
  refine lv_iload_n hx hb dX12_rests_93 rfl (lv_at hl 7 rfl) ?_
  refine lv_iload hx hb dX12_rests_94 (lv_at hl 1 rfl) ?_
  refine lv_iload hx hb dX12_rests_96 (lv_at hl 0 rfl) ?_
  refine k_S (wr := [(z, .inr (11, [.int 0, .int n1, .ref z2, .int n3, .int n4, .int n5, .int n6, .long n7, .int n8, .int n9, .ref z10, .ref z11, .ref z12, .ref z13, .ref z14, .ref z15, .ref z16, .ref z17, .ref z18, .ref z19, .int n20, .int n21, .ref z22, .ref z23, .ref z24, .ref z25, .ref z26, .ref z27, .ref z28, .ref z29, .ref z30, .ref z31, .ref z32, .ref z33, .int n34, .long n35, .ref z36, .ref z37, .ref z38, .ref z39, .ref z40, .ref z41, .ref z42, .ref z43, .ref z44, .ref z45, .ref z46, .ref z47, .ref z48, .int n49, .int n50, .int n51, .int n52, .int n53, .int n54, .ref z55, .ref z56, .int n57, .int n58, .ref z59, .ref z60, .ref z61, .int n62, .long n63]))]) 5 gw_1784 gw_1785 gw_15 gw_1786 hd_X12_getsBy hC hw (c_X12_getsBy γ l bo lo ge 1 0) ⟨by decide, by decide⟩ ⟨by decide, by decide⟩ hl.1 rfl rfl (Nat.le_of_ble_eq_true rfl) [] [0] rfl rfl rfl rfl (by decide) dX12_rests_98 (fun r w1 H locs hq hw => ?_)
  obtain ⟨r9_1987, rfl, rfl, g_1988⟩ := hq
  have hw : kW γ A [(z, .inr (11, [.int 0, .int n1, .ref z2, .int n3, .int n4, .int n5, .int n6, .long n7, .int n8, .int n9, .ref z10, .ref z11, .ref z12, .ref z13, .ref z14, .ref z15, .ref z16, .ref z17, .ref z18, .ref z19, .int n20, .int n21, .ref z22, .ref z23, .ref z24, .ref z25, .ref z26, .ref z27, .ref z28, .ref z29, .ref z30, .ref z31, .ref z32, .ref z33, .int n34, .long n35, .ref z36, .ref z37, .ref z38, .ref z39, .ref z40, .ref z41, .ref z42, .ref z43, .ref z44, .ref z45, .ref z46, .ref z47, .ref z48, .int n49, .int n50, .int n51, .int n52, .int n53, .int n54, .ref z55, .ref z56, .int n57, .int n58, .ref z59, .ref z60, .ref z61, .int n62, .long n63]))] s H locs := hw
  refine W.eq (g2 := F0 m 101 ls [.int r9_1987, .int r9_1985]) rfl ?_
  refine lv_icmp_gt (tgt := 145) hx hb dX12_rests_101 (by decide) (fun c101 => ?_) (fun c101 => ?_)
  · have hk1 : kcb 1 0 bo lo ge = false := kcb_f (a1 := 0) (by decide) g_1986 g_1988 (Int32.not_le.mpr c101)
    refine lv_iinc (v := 3) (lv' := [(6, .int 3), (8, .int 0), (7, .int 1), (5, .int mn), (0, .ref z), (1, .int bo), (2, .int lo), (3, .int ge), (4, .int wh)]) hx hb dX12_rests_145 hl (k := 2) rfl (by decide) (by decide) rfl (fun ls hl => ?_)
    refine lv_goto (tgt := 61) hx hb dX12_rests_148 (by decide) ?_
    exact mrn_1 z z2 z10 z11 z12 z13 z14 z15 z16 z17 z18 z19 z22 z23 z24 z25 z26 z27 z28 z29 z30 z31 z32 z33 z36 z37 z38 z39 z40 z41 z42 z43 z44 z45 z46 z47 z48 z55 z56 z59 z60 z61 n1 n3 n4 n5 n6 n7 n8 n9 n20 n21 n34 n35 n49 n50 n51 n52 n53 n54 n57 n58 n62 n63 bo lo ge wh mn (kR_n1 hK hk1) hC hr hlocks _ _ hw _ (lv_sub hl [0, 3, 4, 5, 6, 7, 8] rfl)
  · have hk1 : kcb 1 0 bo lo ge = true := kcb_t (a1 := 0) (by decide) g_1986 g_1988 (Int32.not_lt.mp c101)
    refine lv_iload_n hx hb dX12_rests_104 rfl (lv_at hl 5 rfl) ?_
    refine lv_iload_n hx hb dX12_rests_105 rfl (lv_at hl 6 rfl) ?_
    refine lv_iload_n hx hb dX12_rests_106 rfl (lv_at hl 7 rfl) ?_
    refine lv_iconst (v := 1) hx hb dX12_rests_107 (by decide) ?_
    refine lv_iload hx hb dX12_rests_108 (lv_at hl 0 rfl) ?_
    refine lv_isub hx hb dX12_rests_110 ?_
    refine lv_topi (fun x_1989 ex_1989 => ?_)
    obtain rfl : x_1989 = 1 := ex_1989.trans (by decide)
    refine lv_iload hx hb dX12_rests_111 (lv_at hl 1 rfl) ?_
    refine k_S (wr := [(z, .inr (11, [.int 0, .int n1, .ref z2, .int n3, .int n4, .int n5, .int n6, .long n7, .int n8, .int n9, .ref z10, .ref z11, .ref z12, .ref z13, .ref z14, .ref z15, .ref z16, .ref z17, .ref z18, .ref z19, .int n20, .int n21, .ref z22, .ref z23, .ref z24, .ref z25, .ref z26, .ref z27, .ref z28, .ref z29, .ref z30, .ref z31, .ref z32, .ref z33, .int n34, .long n35, .ref z36, .ref z37, .ref z38, .ref z39, .ref z40, .ref z41, .ref z42, .ref z43, .ref z44, .ref z45, .ref z46, .ref z47, .ref z48, .int n49, .int n50, .int n51, .int n52, .int n53, .int n54, .ref z55, .ref z56, .int n57, .int n58, .ref z59, .ref z60, .ref z61, .int n62, .long n63]))]) 5 gw_1784 gw_1785 gw_15 gw_1786 hd_X12_getsBy hC hw (c_X12_getsBy γ l bo lo ge 1 1) ⟨by decide, by decide⟩ ⟨by decide, by decide⟩ hl.1 rfl rfl (Nat.le_of_ble_eq_true rfl) [] [0] rfl rfl rfl rfl (by decide) dX12_rests_113 (fun r w1 H locs hq hw => ?_)
    obtain ⟨r9_1990, rfl, rfl, g_1991⟩ := hq
    have hw : kW γ A [(z, .inr (11, [.int 0, .int n1, .ref z2, .int n3, .int n4, .int n5, .int n6, .long n7, .int n8, .int n9, .ref z10, .ref z11, .ref z12, .ref z13, .ref z14, .ref z15, .ref z16, .ref z17, .ref z18, .ref z19, .int n20, .int n21, .ref z22, .ref z23, .ref z24, .ref z25, .ref z26, .ref z27, .ref z28, .ref z29, .ref z30, .ref z31, .ref z32, .ref z33, .int n34, .long n35, .ref z36, .ref z37, .ref z38, .ref z39, .ref z40, .ref z41, .ref z42, .ref z43, .ref z44, .ref z45, .ref z46, .ref z47, .ref z48, .int n49, .int n50, .int n51, .int n52, .int n53, .int n54, .ref z55, .ref z56, .int n57, .int n58, .ref z59, .ref z60, .ref z61, .int n62, .long n63]))] s H locs := hw
    refine W.eq (g2 := F0 m 116 ls [.int r9_1990]) rfl ?_
    refine lv_iload_n hx hb dX12_rests_116 rfl (lv_at hl 5 rfl) ?_
    refine lv_iload_n hx hb dX12_rests_117 rfl (lv_at hl 6 rfl) ?_
    refine lv_iload_n hx hb dX12_rests_118 rfl (lv_at hl 7 rfl) ?_
    refine lv_iload hx hb dX12_rests_119 (lv_at hl 0 rfl) ?_
    refine lv_iload hx hb dX12_rests_121 (lv_at hl 1 rfl) ?_
    refine k_S (wr := [(z, .inr (11, [.int 0, .int n1, .ref z2, .int n3, .int n4, .int n5, .int n6, .long n7, .int n8, .int n9, .ref z10, .ref z11, .ref z12, .ref z13, .ref z14, .ref z15, .ref z16, .ref z17, .ref z18, .ref z19, .int n20, .int n21, .ref z22, .ref z23, .ref z24, .ref z25, .ref z26, .ref z27, .ref z28, .ref z29, .ref z30, .ref z31, .ref z32, .ref z33, .int n34, .long n35, .ref z36, .ref z37, .ref z38, .ref z39, .ref z40, .ref z41, .ref z42, .ref z43, .ref z44, .ref z45, .ref z46, .ref z47, .ref z48, .int n49, .int n50, .int n51, .int n52, .int n53, .int n54, .ref z55, .ref z56, .int n57, .int n58, .ref z59, .ref z60, .ref z61, .int n62, .long n63]))]) 5 gw_1784 gw_1785 gw_15 gw_1786 hd_X12_getsBy hC hw (c_X12_getsBy γ l bo lo ge 0 1) ⟨by decide, by decide⟩ ⟨by decide, by decide⟩ hl.1 rfl rfl (Nat.le_of_ble_eq_true rfl) [] [0] rfl rfl rfl rfl (by decide) dX12_rests_123 (fun r w1 H locs hq hw => ?_)
    obtain ⟨r9_1992, rfl, rfl, g_1993⟩ := hq
    have hw : kW γ A [(z, .inr (11, [.int 0, .int n1, .ref z2, .int n3, .int n4, .int n5, .int n6, .long n7, .int n8, .int n9, .ref z10, .ref z11, .ref z12, .ref z13, .ref z14, .ref z15, .ref z16, .ref z17, .ref z18, .ref z19, .int n20, .int n21, .ref z22, .ref z23, .ref z24, .ref z25, .ref z26, .ref z27, .ref z28, .ref z29, .ref z30, .ref z31, .ref z32, .ref z33, .int n34, .long n35, .ref z36, .ref z37, .ref z38, .ref z39, .ref z40, .ref z41, .ref z42, .ref z43, .ref z44, .ref z45, .ref z46, .ref z47, .ref z48, .int n49, .int n50, .int n51, .int n52, .int n53, .int n54, .ref z55, .ref z56, .int n57, .int n58, .ref z59, .ref z60, .ref z61, .int n62, .long n63]))] s H locs := hw
    refine W.eq (g2 := F0 m 126 ls [.int r9_1992, .int r9_1990]) rfl ?_
    refine lv_icmp_le (tgt := 132) hx hb dX12_rests_126 (by decide) (fun c126 => ?_) (fun c126 => ?_)
    · have hk2 : kcb 0 1 bo lo ge = true := kcb_t (a1 := 1) (by decide) g_1991 g_1993 c126
      refine lv_iload hx hb dX12_rests_132 (lv_at hl 3 rfl) ?_
      refine lv_iload hx hb dX12_rests_134 (lv_at hl 8 rfl) ?_
      refine lv_icmp_ne (tgt := 142) hx hb dX12_rests_136 (by decide) (fun c136 => ?_) (fun c136 => ?_)
      · refine lv_iinc (v := (mn + 1)) (lv' := [(5, .int (mn + 1)), (8, .int 0), (7, .int 1), (6, .int 2), (0, .ref z), (1, .int bo), (2, .int lo), (3, .int ge), (4, .int wh)]) hx hb dX12_rests_142 hl (k := 3) rfl rfl (by decide) rfl (fun ls hl => ?_)
        refine lv_iinc (v := 3) (lv' := [(6, .int 3), (5, .int (mn + 1)), (8, .int 0), (7, .int 1), (0, .ref z), (1, .int bo), (2, .int lo), (3, .int ge), (4, .int wh)]) hx hb dX12_rests_145 hl (k := 3) rfl (by decide) (by decide) rfl (fun ls hl => ?_)
        refine lv_goto (tgt := 61) hx hb dX12_rests_148 (by decide) ?_
        exact mrn_1 z z2 z10 z11 z12 z13 z14 z15 z16 z17 z18 z19 z22 z23 z24 z25 z26 z27 z28 z29 z30 z31 z32 z33 z36 z37 z38 z39 z40 z41 z42 z43 z44 z45 z46 z47 z48 z55 z56 z59 z60 z61 n1 n3 n4 n5 n6 n7 n8 n9 n20 n21 n34 n35 n49 n50 n51 n52 n53 n54 n57 n58 n62 n63 bo lo ge wh (mn + 1) (kR_c hK hk1 hk2 c136) hC hr hlocks _ _ hw _ (lv_sub hl [0, 1, 4, 5, 6, 7, 8] rfl)
      · refine lv_iload hx hb dX12_rests_139 (lv_at hl 2 rfl) ?_
        exact absurd (kR_e hK hk1 hk2 c136) (by simp)
    · have hk2 : kcb 0 1 bo lo ge = false := kcb_f (a1 := 1) (by decide) g_1991 g_1993 c126
      refine lv_goto (tgt := 145) hx hb dX12_rests_129 (by decide) ?_
      refine lv_iinc (v := 3) (lv' := [(6, .int 3), (8, .int 0), (7, .int 1), (5, .int mn), (0, .ref z), (1, .int bo), (2, .int lo), (3, .int ge), (4, .int wh)]) hx hb dX12_rests_145 hl (k := 2) rfl (by decide) (by decide) rfl (fun ls hl => ?_)
      refine lv_goto (tgt := 61) hx hb dX12_rests_148 (by decide) ?_
      exact mrn_1 z z2 z10 z11 z12 z13 z14 z15 z16 z17 z18 z19 z22 z23 z24 z25 z26 z27 z28 z29 z30 z31 z32 z33 z36 z37 z38 z39 z40 z41 z42 z43 z44 z45 z46 z47 z48 z55 z56 z59 z60 z61 n1 n3 n4 n5 n6 n7 n8 n9 n20 n21 n34 n35 n49 n50 n51 n52 n53 n54 n57 n58 n62 n63 bo lo ge wh mn (kR_n2 hK hk2) hC hr hlocks _ _ hw _ (lv_sub hl [0, 3, 4, 5, 6, 7, 8] rfl)

set_option maxHeartbeats 4000000 in
set_option maxRecDepth 100000 in
theorem mrn_3 {γ : kΓ} {l : Launch} {p : Program} {e : Env} {s : State} {m : MethodId} {below : List Frame} {meth : Method} {c : Code} {A : Nat → Prop} (z : Nat) (z2 : Nat) (z10 : Nat) (z11 : Nat) (z12 : Nat) (z13 : Nat) (z14 : Nat) (z15 : Nat) (z16 : Nat) (z17 : Nat) (z18 : Nat) (z19 : Nat) (z22 : Nat) (z23 : Nat) (z24 : Nat) (z25 : Nat) (z26 : Nat) (z27 : Nat) (z28 : Nat) (z29 : Nat) (z30 : Nat) (z31 : Nat) (z32 : Nat) (z33 : Nat) (z36 : Nat) (z37 : Nat) (z38 : Nat) (z39 : Nat) (z40 : Nat) (z41 : Nat) (z42 : Nat) (z43 : Nat) (z44 : Nat) (z45 : Nat) (z46 : Nat) (z47 : Nat) (z48 : Nat) (z55 : Nat) (z56 : Nat) (z59 : Nat) (z60 : Nat) (z61 : Nat) (n1 : Int32) (n3 : Int32) (n4 : Int32) (n5 : Int32) (n6 : Int32) (n7 : Int64) (n8 : Int32) (n9 : Int32) (n20 : Int32) (n21 : Int32) (n34 : Int32) (n35 : Int64) (n49 : Int32) (n50 : Int32) (n51 : Int32) (n52 : Int32) (n53 : Int32) (n54 : Int32) (n57 : Int32) (n58 : Int32) (n62 : Int32) (n63 : Int64) (bo : Int32) (lo : Int32) (ge : Int32) (wh : Int32) (mn : Int32) (hK : kR bo lo ge wh 3 mn = none) (hC : kC γ p s m [.ref z, .int bo, .int lo, .int ge, .int wh].toArray c cX12_rests 9 RX12 A) (hr : meth.sig.returnType = (some .int)) (hlocks : meth.locks = false) (H : Heap) (locs : List Loc) (hw : kW γ A [(z, .inr (11, [.int 0, .int n1, .ref z2, .int n3, .int n4, .int n5, .int n6, .long n7, .int n8, .int n9, .ref z10, .ref z11, .ref z12, .ref z13, .ref z14, .ref z15, .ref z16, .ref z17, .ref z18, .ref z19, .int n20, .int n21, .ref z22, .ref z23, .ref z24, .ref z25, .ref z26, .ref z27, .ref z28, .ref z29, .ref z30, .ref z31, .ref z32, .ref z33, .int n34, .long n35, .ref z36, .ref z37, .ref z38, .ref z39, .ref z40, .ref z41, .ref z42, .ref z43, .ref z44, .ref z45, .ref z46, .ref z47, .ref z48, .int n49, .int n50, .int n51, .int n52, .int n53, .int n54, .ref z55, .ref z56, .int n57, .int n58, .ref z59, .ref z60, .ref z61, .int n62, .long n63]))] s H locs) (ls : Array Slot) (hl : lv_has ls 9 [(6, .int 1), (5, .int mn), (0, .ref z), (1, .int bo), (2, .int lo), (3, .int ge), (4, .int wh)]) : W p l e ({ frames := 1, cells := 0, slots := 0, locals := 24 } : Room) s m [.ref z, .int bo, .int lo, .int ge, .int wh].toArray below meth c H locs 0 0 (MQ below (kQ γ A (fun r w1 => r = some (.int 0) ∧ w1 = [(z, .inr (11, [.int 1, .int n1, .ref z2, .int n3, .int n4, .int n5, .int n6, .long n7, .int n8, .int n9, .ref z10, .ref z11, .ref z12, .ref z13, .ref z14, .ref z15, .ref z16, .ref z17, .ref z18, .ref z19, .int n20, .int n21, .ref z22, .ref z23, .ref z24, .ref z25, .ref z26, .ref z27, .ref z28, .ref z29, .ref z30, .ref z31, .ref z32, .ref z33, .int n34, .long n35, .ref z36, .ref z37, .ref z38, .ref z39, .ref z40, .ref z41, .ref z42, .ref z43, .ref z44, .ref z45, .ref z46, .ref z47, .ref z48, .int n49, .int n50, .int n51, .int n52, .int n53, .int n54, .ref z55, .ref z56, .int n57, .int n58, .ref z59, .ref z60, .ref z61, .int n62, .long n63]))])) [.ref z, .int bo, .int lo, .int ge, .int wh].toArray s 0 0 A) (F0 m 61 ls []) := by
  have hx := hC.1
  have hb := hC.2.1
  refine lv_iload hx hb dX12_rests_61 (lv_at hl 0 rfl) ?_
  refine lv_iconst (v := 4) hx hb dX12_rests_63 (by decide) ?_
  refine lv_icmp_ge (tgt := 151) hx hb dX12_rests_64 (by decide) (fun h => absurd h (by decide)) (fun _ => ?_)
  refine lv_iload hx hb dX12_rests_67 (lv_at hl 0 rfl) ?_
  refine lv_iconst (v := 2) hx hb dX12_rests_69 (by decide) ?_
  refine lv_idiv hx hb dX12_rests_70 (by decide) ?_
  refine lv_topi (fun x_1994 ex_1994 => ?_)
  obtain rfl : x_1994 = 0 := ex_1994.trans (by decide)
  refine lv_istore (lv' := [(7, .int 0), (6, .int 1), (5, .int mn), (0, .ref z), (1, .int bo), (2, .int lo), (3, .int ge), (4, .int wh)]) hx hb dX12_rests_71 hl (by decide) rfl (fun ls hl => ?_)
  refine lv_iload hx hb dX12_rests_73 (lv_at hl 1 rfl) ?_
  refine lv_iconst (v := 2) hx hb dX12_rests_75 (by decide) ?_
  refine lv_irem hx hb dX12_rests_76 (by decide) ?_
  refine lv_topi (fun x_1995 ex_1995 => ?_)
  obtain rfl : x_1995 = 1 := ex_1995.trans (by decide)
  refine lv_istore (lv' := [(8, .int 1), (7, .int 0), (6, .int 1), (5, .int mn), (0, .ref z), (1, .int bo), (2, .int lo), (3, .int ge), (4, .int wh)]) hx hb dX12_rests_77 hl (by decide) rfl (fun ls hl => ?_)
  refine lv_iload_n hx hb dX12_rests_79 rfl (lv_at hl 5 rfl) ?_
  refine lv_iload_n hx hb dX12_rests_80 rfl (lv_at hl 6 rfl) ?_
  refine lv_iload_n hx hb dX12_rests_81 rfl (lv_at hl 7 rfl) ?_
  refine lv_iconst (v := 1) hx hb dX12_rests_82 (by decide) ?_
  refine lv_iload hx hb dX12_rests_83 (lv_at hl 1 rfl) ?_
  refine lv_isub hx hb dX12_rests_85 ?_
  refine lv_topi (fun x_1996 ex_1996 => ?_)
  obtain rfl : x_1996 = 1 := ex_1996.trans (by decide)
  refine lv_iload hx hb dX12_rests_86 (lv_at hl 0 rfl) ?_
  refine k_S (wr := [(z, .inr (11, [.int 0, .int n1, .ref z2, .int n3, .int n4, .int n5, .int n6, .long n7, .int n8, .int n9, .ref z10, .ref z11, .ref z12, .ref z13, .ref z14, .ref z15, .ref z16, .ref z17, .ref z18, .ref z19, .int n20, .int n21, .ref z22, .ref z23, .ref z24, .ref z25, .ref z26, .ref z27, .ref z28, .ref z29, .ref z30, .ref z31, .ref z32, .ref z33, .int n34, .long n35, .ref z36, .ref z37, .ref z38, .ref z39, .ref z40, .ref z41, .ref z42, .ref z43, .ref z44, .ref z45, .ref z46, .ref z47, .ref z48, .int n49, .int n50, .int n51, .int n52, .int n53, .int n54, .ref z55, .ref z56, .int n57, .int n58, .ref z59, .ref z60, .ref z61, .int n62, .long n63]))]) 5 gw_1784 gw_1785 gw_15 gw_1786 hd_X12_getsBy hC hw (c_X12_getsBy γ l bo lo ge 1 1) ⟨by decide, by decide⟩ ⟨by decide, by decide⟩ hl.1 rfl rfl (Nat.le_of_ble_eq_true rfl) [] [0] rfl rfl rfl rfl (by decide) dX12_rests_88 (fun r w1 H locs hq hw => ?_)
  obtain ⟨r9_1997, rfl, rfl, g_1998⟩ := hq
  have hw : kW γ A [(z, .inr (11, [.int 0, .int n1, .ref z2, .int n3, .int n4, .int n5, .int n6, .long n7, .int n8, .int n9, .ref z10, .ref z11, .ref z12, .ref z13, .ref z14, .ref z15, .ref z16, .ref z17, .ref z18, .ref z19, .int n20, .int n21, .ref z22, .ref z23, .ref z24, .ref z25, .ref z26, .ref z27, .ref z28, .ref z29, .ref z30, .ref z31, .ref z32, .ref z33, .int n34, .long n35, .ref z36, .ref z37, .ref z38, .ref z39, .ref z40, .ref z41, .ref z42, .ref z43, .ref z44, .ref z45, .ref z46, .ref z47, .ref z48, .int n49, .int n50, .int n51, .int n52, .int n53, .int n54, .ref z55, .ref z56, .int n57, .int n58, .ref z59, .ref z60, .ref z61, .int n62, .long n63]))] s H locs := hw
  refine W.eq (g2 := F0 m 91 ls [.int r9_1997]) rfl ?_
  refine lv_iload_n hx hb dX12_rests_91 rfl (lv_at hl 5 rfl) ?_
  refine lv_iload_n hx hb dX12_rests_92 rfl (lv_at hl 6 rfl) ?_
  refine lv_iload_n hx hb dX12_rests_93 rfl (lv_at hl 7 rfl) ?_
  refine lv_iload hx hb dX12_rests_94 (lv_at hl 1 rfl) ?_
  refine lv_iload hx hb dX12_rests_96 (lv_at hl 0 rfl) ?_
  refine k_S (wr := [(z, .inr (11, [.int 0, .int n1, .ref z2, .int n3, .int n4, .int n5, .int n6, .long n7, .int n8, .int n9, .ref z10, .ref z11, .ref z12, .ref z13, .ref z14, .ref z15, .ref z16, .ref z17, .ref z18, .ref z19, .int n20, .int n21, .ref z22, .ref z23, .ref z24, .ref z25, .ref z26, .ref z27, .ref z28, .ref z29, .ref z30, .ref z31, .ref z32, .ref z33, .int n34, .long n35, .ref z36, .ref z37, .ref z38, .ref z39, .ref z40, .ref z41, .ref z42, .ref z43, .ref z44, .ref z45, .ref z46, .ref z47, .ref z48, .int n49, .int n50, .int n51, .int n52, .int n53, .int n54, .ref z55, .ref z56, .int n57, .int n58, .ref z59, .ref z60, .ref z61, .int n62, .long n63]))]) 5 gw_1784 gw_1785 gw_15 gw_1786 hd_X12_getsBy hC hw (c_X12_getsBy γ l bo lo ge 0 1) ⟨by decide, by decide⟩ ⟨by decide, by decide⟩ hl.1 rfl rfl (Nat.le_of_ble_eq_true rfl) [] [0] rfl rfl rfl rfl (by decide) dX12_rests_98 (fun r w1 H locs hq hw => ?_)
  obtain ⟨r9_1999, rfl, rfl, g_2000⟩ := hq
  have hw : kW γ A [(z, .inr (11, [.int 0, .int n1, .ref z2, .int n3, .int n4, .int n5, .int n6, .long n7, .int n8, .int n9, .ref z10, .ref z11, .ref z12, .ref z13, .ref z14, .ref z15, .ref z16, .ref z17, .ref z18, .ref z19, .int n20, .int n21, .ref z22, .ref z23, .ref z24, .ref z25, .ref z26, .ref z27, .ref z28, .ref z29, .ref z30, .ref z31, .ref z32, .ref z33, .int n34, .long n35, .ref z36, .ref z37, .ref z38, .ref z39, .ref z40, .ref z41, .ref z42, .ref z43, .ref z44, .ref z45, .ref z46, .ref z47, .ref z48, .int n49, .int n50, .int n51, .int n52, .int n53, .int n54, .ref z55, .ref z56, .int n57, .int n58, .ref z59, .ref z60, .ref z61, .int n62, .long n63]))] s H locs := hw
  refine W.eq (g2 := F0 m 101 ls [.int r9_1999, .int r9_1997]) rfl ?_
  refine lv_icmp_gt (tgt := 145) hx hb dX12_rests_101 (by decide) (fun c101 => ?_) (fun c101 => ?_)
  · have hk1 : kcb 0 1 bo lo ge = false := kcb_f (a1 := 1) (by decide) g_1998 g_2000 (Int32.not_le.mpr c101)
    refine lv_iinc (v := 2) (lv' := [(6, .int 2), (8, .int 1), (7, .int 0), (5, .int mn), (0, .ref z), (1, .int bo), (2, .int lo), (3, .int ge), (4, .int wh)]) hx hb dX12_rests_145 hl (k := 2) rfl (by decide) (by decide) rfl (fun ls hl => ?_)
    refine lv_goto (tgt := 61) hx hb dX12_rests_148 (by decide) ?_
    exact mrn_2 z z2 z10 z11 z12 z13 z14 z15 z16 z17 z18 z19 z22 z23 z24 z25 z26 z27 z28 z29 z30 z31 z32 z33 z36 z37 z38 z39 z40 z41 z42 z43 z44 z45 z46 z47 z48 z55 z56 z59 z60 z61 n1 n3 n4 n5 n6 n7 n8 n9 n20 n21 n34 n35 n49 n50 n51 n52 n53 n54 n57 n58 n62 n63 bo lo ge wh mn (kR_n1 hK hk1) hC hr hlocks _ _ hw _ (lv_sub hl [0, 3, 4, 5, 6, 7, 8] rfl)
  · have hk1 : kcb 0 1 bo lo ge = true := kcb_t (a1 := 1) (by decide) g_1998 g_2000 (Int32.not_lt.mp c101)
    refine lv_iload_n hx hb dX12_rests_104 rfl (lv_at hl 5 rfl) ?_
    refine lv_iload_n hx hb dX12_rests_105 rfl (lv_at hl 6 rfl) ?_
    refine lv_iload_n hx hb dX12_rests_106 rfl (lv_at hl 7 rfl) ?_
    refine lv_iconst (v := 1) hx hb dX12_rests_107 (by decide) ?_
    refine lv_iload hx hb dX12_rests_108 (lv_at hl 0 rfl) ?_
    refine lv_isub hx hb dX12_rests_110 ?_
    refine lv_topi (fun x_2001 ex_2001 => ?_)
    obtain rfl : x_2001 = 0 := ex_2001.trans (by decide)
    refine lv_iload hx hb dX12_rests_111 (lv_at hl 1 rfl) ?_
    refine k_S (wr := [(z, .inr (11, [.int 0, .int n1, .ref z2, .int n3, .int n4, .int n5, .int n6, .long n7, .int n8, .int n9, .ref z10, .ref z11, .ref z12, .ref z13, .ref z14, .ref z15, .ref z16, .ref z17, .ref z18, .ref z19, .int n20, .int n21, .ref z22, .ref z23, .ref z24, .ref z25, .ref z26, .ref z27, .ref z28, .ref z29, .ref z30, .ref z31, .ref z32, .ref z33, .int n34, .long n35, .ref z36, .ref z37, .ref z38, .ref z39, .ref z40, .ref z41, .ref z42, .ref z43, .ref z44, .ref z45, .ref z46, .ref z47, .ref z48, .int n49, .int n50, .int n51, .int n52, .int n53, .int n54, .ref z55, .ref z56, .int n57, .int n58, .ref z59, .ref z60, .ref z61, .int n62, .long n63]))]) 5 gw_1784 gw_1785 gw_15 gw_1786 hd_X12_getsBy hC hw (c_X12_getsBy γ l bo lo ge 0 0) ⟨by decide, by decide⟩ ⟨by decide, by decide⟩ hl.1 rfl rfl (Nat.le_of_ble_eq_true rfl) [] [0] rfl rfl rfl rfl (by decide) dX12_rests_113 (fun r w1 H locs hq hw => ?_)
    obtain ⟨r9_2002, rfl, rfl, g_2003⟩ := hq
    have hw : kW γ A [(z, .inr (11, [.int 0, .int n1, .ref z2, .int n3, .int n4, .int n5, .int n6, .long n7, .int n8, .int n9, .ref z10, .ref z11, .ref z12, .ref z13, .ref z14, .ref z15, .ref z16, .ref z17, .ref z18, .ref z19, .int n20, .int n21, .ref z22, .ref z23, .ref z24, .ref z25, .ref z26, .ref z27, .ref z28, .ref z29, .ref z30, .ref z31, .ref z32, .ref z33, .int n34, .long n35, .ref z36, .ref z37, .ref z38, .ref z39, .ref z40, .ref z41, .ref z42, .ref z43, .ref z44, .ref z45, .ref z46, .ref z47, .ref z48, .int n49, .int n50, .int n51, .int n52, .int n53, .int n54, .ref z55, .ref z56, .int n57, .int n58, .ref z59, .ref z60, .ref z61, .int n62, .long n63]))] s H locs := hw
    refine W.eq (g2 := F0 m 116 ls [.int r9_2002]) rfl ?_
    refine lv_iload_n hx hb dX12_rests_116 rfl (lv_at hl 5 rfl) ?_
    refine lv_iload_n hx hb dX12_rests_117 rfl (lv_at hl 6 rfl) ?_
    refine lv_iload_n hx hb dX12_rests_118 rfl (lv_at hl 7 rfl) ?_
    refine lv_iload hx hb dX12_rests_119 (lv_at hl 0 rfl) ?_
    refine lv_iload hx hb dX12_rests_121 (lv_at hl 1 rfl) ?_
    refine k_S (wr := [(z, .inr (11, [.int 0, .int n1, .ref z2, .int n3, .int n4, .int n5, .int n6, .long n7, .int n8, .int n9, .ref z10, .ref z11, .ref z12, .ref z13, .ref z14, .ref z15, .ref z16, .ref z17, .ref z18, .ref z19, .int n20, .int n21, .ref z22, .ref z23, .ref z24, .ref z25, .ref z26, .ref z27, .ref z28, .ref z29, .ref z30, .ref z31, .ref z32, .ref z33, .int n34, .long n35, .ref z36, .ref z37, .ref z38, .ref z39, .ref z40, .ref z41, .ref z42, .ref z43, .ref z44, .ref z45, .ref z46, .ref z47, .ref z48, .int n49, .int n50, .int n51, .int n52, .int n53, .int n54, .ref z55, .ref z56, .int n57, .int n58, .ref z59, .ref z60, .ref z61, .int n62, .long n63]))]) 5 gw_1784 gw_1785 gw_15 gw_1786 hd_X12_getsBy hC hw (c_X12_getsBy γ l bo lo ge 1 0) ⟨by decide, by decide⟩ ⟨by decide, by decide⟩ hl.1 rfl rfl (Nat.le_of_ble_eq_true rfl) [] [0] rfl rfl rfl rfl (by decide) dX12_rests_123 (fun r w1 H locs hq hw => ?_)
    obtain ⟨r9_2004, rfl, rfl, g_2005⟩ := hq
    have hw : kW γ A [(z, .inr (11, [.int 0, .int n1, .ref z2, .int n3, .int n4, .int n5, .int n6, .long n7, .int n8, .int n9, .ref z10, .ref z11, .ref z12, .ref z13, .ref z14, .ref z15, .ref z16, .ref z17, .ref z18, .ref z19, .int n20, .int n21, .ref z22, .ref z23, .ref z24, .ref z25, .ref z26, .ref z27, .ref z28, .ref z29, .ref z30, .ref z31, .ref z32, .ref z33, .int n34, .long n35, .ref z36, .ref z37, .ref z38, .ref z39, .ref z40, .ref z41, .ref z42, .ref z43, .ref z44, .ref z45, .ref z46, .ref z47, .ref z48, .int n49, .int n50, .int n51, .int n52, .int n53, .int n54, .ref z55, .ref z56, .int n57, .int n58, .ref z59, .ref z60, .ref z61, .int n62, .long n63]))] s H locs := hw
    refine W.eq (g2 := F0 m 126 ls [.int r9_2004, .int r9_2002]) rfl ?_
    refine lv_icmp_le (tgt := 132) hx hb dX12_rests_126 (by decide) (fun c126 => ?_) (fun c126 => ?_)
    · have hk2 : kcb 1 0 bo lo ge = true := kcb_t (a1 := 0) (by decide) g_2003 g_2005 c126
      refine lv_iload hx hb dX12_rests_132 (lv_at hl 3 rfl) ?_
      refine lv_iload hx hb dX12_rests_134 (lv_at hl 8 rfl) ?_
      refine lv_icmp_ne (tgt := 142) hx hb dX12_rests_136 (by decide) (fun c136 => ?_) (fun c136 => ?_)
      · refine lv_iinc (v := (mn + 1)) (lv' := [(5, .int (mn + 1)), (8, .int 1), (7, .int 0), (6, .int 1), (0, .ref z), (1, .int bo), (2, .int lo), (3, .int ge), (4, .int wh)]) hx hb dX12_rests_142 hl (k := 3) rfl rfl (by decide) rfl (fun ls hl => ?_)
        refine lv_iinc (v := 2) (lv' := [(6, .int 2), (5, .int (mn + 1)), (8, .int 1), (7, .int 0), (0, .ref z), (1, .int bo), (2, .int lo), (3, .int ge), (4, .int wh)]) hx hb dX12_rests_145 hl (k := 3) rfl (by decide) (by decide) rfl (fun ls hl => ?_)
        refine lv_goto (tgt := 61) hx hb dX12_rests_148 (by decide) ?_
        exact mrn_2 z z2 z10 z11 z12 z13 z14 z15 z16 z17 z18 z19 z22 z23 z24 z25 z26 z27 z28 z29 z30 z31 z32 z33 z36 z37 z38 z39 z40 z41 z42 z43 z44 z45 z46 z47 z48 z55 z56 z59 z60 z61 n1 n3 n4 n5 n6 n7 n8 n9 n20 n21 n34 n35 n49 n50 n51 n52 n53 n54 n57 n58 n62 n63 bo lo ge wh (mn + 1) (kR_c hK hk1 hk2 c136) hC hr hlocks _ _ hw _ (lv_sub hl [0, 1, 4, 5, 6, 7, 8] rfl)
      · refine lv_iload hx hb dX12_rests_139 (lv_at hl 2 rfl) ?_
        exact absurd (kR_e hK hk1 hk2 c136) (by simp)
    · have hk2 : kcb 1 0 bo lo ge = false := kcb_f (a1 := 0) (by decide) g_2003 g_2005 c126
      refine lv_goto (tgt := 145) hx hb dX12_rests_129 (by decide) ?_
      refine lv_iinc (v := 2) (lv' := [(6, .int 2), (8, .int 1), (7, .int 0), (5, .int mn), (0, .ref z), (1, .int bo), (2, .int lo), (3, .int ge), (4, .int wh)]) hx hb dX12_rests_145 hl (k := 2) rfl (by decide) (by decide) rfl (fun ls hl => ?_)
      refine lv_goto (tgt := 61) hx hb dX12_rests_148 (by decide) ?_
      exact mrn_2 z z2 z10 z11 z12 z13 z14 z15 z16 z17 z18 z19 z22 z23 z24 z25 z26 z27 z28 z29 z30 z31 z32 z33 z36 z37 z38 z39 z40 z41 z42 z43 z44 z45 z46 z47 z48 z55 z56 z59 z60 z61 n1 n3 n4 n5 n6 n7 n8 n9 n20 n21 n34 n35 n49 n50 n51 n52 n53 n54 n57 n58 n62 n63 bo lo ge wh mn (kR_n2 hK hk2) hC hr hlocks _ _ hw _ (lv_sub hl [0, 3, 4, 5, 6, 7, 8] rfl)

set_option maxHeartbeats 4000000 in
set_option maxRecDepth 100000 in
theorem mrn_4 {γ : kΓ} {l : Launch} {p : Program} {e : Env} {s : State} {m : MethodId} {below : List Frame} {meth : Method} {c : Code} {A : Nat → Prop} (z : Nat) (z2 : Nat) (z10 : Nat) (z11 : Nat) (z12 : Nat) (z13 : Nat) (z14 : Nat) (z15 : Nat) (z16 : Nat) (z17 : Nat) (z18 : Nat) (z19 : Nat) (z22 : Nat) (z23 : Nat) (z24 : Nat) (z25 : Nat) (z26 : Nat) (z27 : Nat) (z28 : Nat) (z29 : Nat) (z30 : Nat) (z31 : Nat) (z32 : Nat) (z33 : Nat) (z36 : Nat) (z37 : Nat) (z38 : Nat) (z39 : Nat) (z40 : Nat) (z41 : Nat) (z42 : Nat) (z43 : Nat) (z44 : Nat) (z45 : Nat) (z46 : Nat) (z47 : Nat) (z48 : Nat) (z55 : Nat) (z56 : Nat) (z59 : Nat) (z60 : Nat) (z61 : Nat) (n1 : Int32) (n3 : Int32) (n4 : Int32) (n5 : Int32) (n6 : Int32) (n7 : Int64) (n8 : Int32) (n9 : Int32) (n20 : Int32) (n21 : Int32) (n34 : Int32) (n35 : Int64) (n49 : Int32) (n50 : Int32) (n51 : Int32) (n52 : Int32) (n53 : Int32) (n54 : Int32) (n57 : Int32) (n58 : Int32) (n62 : Int32) (n63 : Int64) (bo : Int32) (lo : Int32) (ge : Int32) (wh : Int32) (mn : Int32) (hK : kR bo lo ge wh 4 mn = none) (hC : kC γ p s m [.ref z, .int bo, .int lo, .int ge, .int wh].toArray c cX12_rests 9 RX12 A) (hr : meth.sig.returnType = (some .int)) (hlocks : meth.locks = false) (H : Heap) (locs : List Loc) (hw : kW γ A [(z, .inr (11, [.int 0, .int n1, .ref z2, .int n3, .int n4, .int n5, .int n6, .long n7, .int n8, .int n9, .ref z10, .ref z11, .ref z12, .ref z13, .ref z14, .ref z15, .ref z16, .ref z17, .ref z18, .ref z19, .int n20, .int n21, .ref z22, .ref z23, .ref z24, .ref z25, .ref z26, .ref z27, .ref z28, .ref z29, .ref z30, .ref z31, .ref z32, .ref z33, .int n34, .long n35, .ref z36, .ref z37, .ref z38, .ref z39, .ref z40, .ref z41, .ref z42, .ref z43, .ref z44, .ref z45, .ref z46, .ref z47, .ref z48, .int n49, .int n50, .int n51, .int n52, .int n53, .int n54, .ref z55, .ref z56, .int n57, .int n58, .ref z59, .ref z60, .ref z61, .int n62, .long n63]))] s H locs) (ls : Array Slot) (hl : lv_has ls 9 [(6, .int 0), (5, .int mn), (0, .ref z), (1, .int bo), (2, .int lo), (3, .int ge), (4, .int wh)]) : W p l e ({ frames := 1, cells := 0, slots := 0, locals := 24 } : Room) s m [.ref z, .int bo, .int lo, .int ge, .int wh].toArray below meth c H locs 0 0 (MQ below (kQ γ A (fun r w1 => r = some (.int 0) ∧ w1 = [(z, .inr (11, [.int 1, .int n1, .ref z2, .int n3, .int n4, .int n5, .int n6, .long n7, .int n8, .int n9, .ref z10, .ref z11, .ref z12, .ref z13, .ref z14, .ref z15, .ref z16, .ref z17, .ref z18, .ref z19, .int n20, .int n21, .ref z22, .ref z23, .ref z24, .ref z25, .ref z26, .ref z27, .ref z28, .ref z29, .ref z30, .ref z31, .ref z32, .ref z33, .int n34, .long n35, .ref z36, .ref z37, .ref z38, .ref z39, .ref z40, .ref z41, .ref z42, .ref z43, .ref z44, .ref z45, .ref z46, .ref z47, .ref z48, .int n49, .int n50, .int n51, .int n52, .int n53, .int n54, .ref z55, .ref z56, .int n57, .int n58, .ref z59, .ref z60, .ref z61, .int n62, .long n63]))])) [.ref z, .int bo, .int lo, .int ge, .int wh].toArray s 0 0 A) (F0 m 61 ls []) := by
  have hx := hC.1
  have hb := hC.2.1
  refine lv_iload hx hb dX12_rests_61 (lv_at hl 0 rfl) ?_
  refine lv_iconst (v := 4) hx hb dX12_rests_63 (by decide) ?_
  refine lv_icmp_ge (tgt := 151) hx hb dX12_rests_64 (by decide) (fun h => absurd h (by decide)) (fun _ => ?_)
  refine lv_iload hx hb dX12_rests_67 (lv_at hl 0 rfl) ?_
  refine lv_iconst (v := 2) hx hb dX12_rests_69 (by decide) ?_
  refine lv_idiv hx hb dX12_rests_70 (by decide) ?_
  refine lv_topi (fun x_2006 ex_2006 => ?_)
  obtain rfl : x_2006 = 0 := ex_2006.trans (by decide)
  refine lv_istore (lv' := [(7, .int 0), (6, .int 0), (5, .int mn), (0, .ref z), (1, .int bo), (2, .int lo), (3, .int ge), (4, .int wh)]) hx hb dX12_rests_71 hl (by decide) rfl (fun ls hl => ?_)
  refine lv_iload hx hb dX12_rests_73 (lv_at hl 1 rfl) ?_
  refine lv_iconst (v := 2) hx hb dX12_rests_75 (by decide) ?_
  refine lv_irem hx hb dX12_rests_76 (by decide) ?_
  refine lv_topi (fun x_2007 ex_2007 => ?_)
  obtain rfl : x_2007 = 0 := ex_2007.trans (by decide)
  refine lv_istore (lv' := [(8, .int 0), (7, .int 0), (6, .int 0), (5, .int mn), (0, .ref z), (1, .int bo), (2, .int lo), (3, .int ge), (4, .int wh)]) hx hb dX12_rests_77 hl (by decide) rfl (fun ls hl => ?_)
  refine lv_iload_n hx hb dX12_rests_79 rfl (lv_at hl 5 rfl) ?_
  refine lv_iload_n hx hb dX12_rests_80 rfl (lv_at hl 6 rfl) ?_
  refine lv_iload_n hx hb dX12_rests_81 rfl (lv_at hl 7 rfl) ?_
  refine lv_iconst (v := 1) hx hb dX12_rests_82 (by decide) ?_
  refine lv_iload hx hb dX12_rests_83 (lv_at hl 1 rfl) ?_
  refine lv_isub hx hb dX12_rests_85 ?_
  refine lv_topi (fun x_2008 ex_2008 => ?_)
  obtain rfl : x_2008 = 1 := ex_2008.trans (by decide)
  refine lv_iload hx hb dX12_rests_86 (lv_at hl 0 rfl) ?_
  refine k_S (wr := [(z, .inr (11, [.int 0, .int n1, .ref z2, .int n3, .int n4, .int n5, .int n6, .long n7, .int n8, .int n9, .ref z10, .ref z11, .ref z12, .ref z13, .ref z14, .ref z15, .ref z16, .ref z17, .ref z18, .ref z19, .int n20, .int n21, .ref z22, .ref z23, .ref z24, .ref z25, .ref z26, .ref z27, .ref z28, .ref z29, .ref z30, .ref z31, .ref z32, .ref z33, .int n34, .long n35, .ref z36, .ref z37, .ref z38, .ref z39, .ref z40, .ref z41, .ref z42, .ref z43, .ref z44, .ref z45, .ref z46, .ref z47, .ref z48, .int n49, .int n50, .int n51, .int n52, .int n53, .int n54, .ref z55, .ref z56, .int n57, .int n58, .ref z59, .ref z60, .ref z61, .int n62, .long n63]))]) 5 gw_1784 gw_1785 gw_15 gw_1786 hd_X12_getsBy hC hw (c_X12_getsBy γ l bo lo ge 1 0) ⟨by decide, by decide⟩ ⟨by decide, by decide⟩ hl.1 rfl rfl (Nat.le_of_ble_eq_true rfl) [] [0] rfl rfl rfl rfl (by decide) dX12_rests_88 (fun r w1 H locs hq hw => ?_)
  obtain ⟨r9_2009, rfl, rfl, g_2010⟩ := hq
  have hw : kW γ A [(z, .inr (11, [.int 0, .int n1, .ref z2, .int n3, .int n4, .int n5, .int n6, .long n7, .int n8, .int n9, .ref z10, .ref z11, .ref z12, .ref z13, .ref z14, .ref z15, .ref z16, .ref z17, .ref z18, .ref z19, .int n20, .int n21, .ref z22, .ref z23, .ref z24, .ref z25, .ref z26, .ref z27, .ref z28, .ref z29, .ref z30, .ref z31, .ref z32, .ref z33, .int n34, .long n35, .ref z36, .ref z37, .ref z38, .ref z39, .ref z40, .ref z41, .ref z42, .ref z43, .ref z44, .ref z45, .ref z46, .ref z47, .ref z48, .int n49, .int n50, .int n51, .int n52, .int n53, .int n54, .ref z55, .ref z56, .int n57, .int n58, .ref z59, .ref z60, .ref z61, .int n62, .long n63]))] s H locs := hw
  refine W.eq (g2 := F0 m 91 ls [.int r9_2009]) rfl ?_
  refine lv_iload_n hx hb dX12_rests_91 rfl (lv_at hl 5 rfl) ?_
  refine lv_iload_n hx hb dX12_rests_92 rfl (lv_at hl 6 rfl) ?_
  refine lv_iload_n hx hb dX12_rests_93 rfl (lv_at hl 7 rfl) ?_
  refine lv_iload hx hb dX12_rests_94 (lv_at hl 1 rfl) ?_
  refine lv_iload hx hb dX12_rests_96 (lv_at hl 0 rfl) ?_
  refine k_S (wr := [(z, .inr (11, [.int 0, .int n1, .ref z2, .int n3, .int n4, .int n5, .int n6, .long n7, .int n8, .int n9, .ref z10, .ref z11, .ref z12, .ref z13, .ref z14, .ref z15, .ref z16, .ref z17, .ref z18, .ref z19, .int n20, .int n21, .ref z22, .ref z23, .ref z24, .ref z25, .ref z26, .ref z27, .ref z28, .ref z29, .ref z30, .ref z31, .ref z32, .ref z33, .int n34, .long n35, .ref z36, .ref z37, .ref z38, .ref z39, .ref z40, .ref z41, .ref z42, .ref z43, .ref z44, .ref z45, .ref z46, .ref z47, .ref z48, .int n49, .int n50, .int n51, .int n52, .int n53, .int n54, .ref z55, .ref z56, .int n57, .int n58, .ref z59, .ref z60, .ref z61, .int n62, .long n63]))]) 5 gw_1784 gw_1785 gw_15 gw_1786 hd_X12_getsBy hC hw (c_X12_getsBy γ l bo lo ge 0 0) ⟨by decide, by decide⟩ ⟨by decide, by decide⟩ hl.1 rfl rfl (Nat.le_of_ble_eq_true rfl) [] [0] rfl rfl rfl rfl (by decide) dX12_rests_98 (fun r w1 H locs hq hw => ?_)
  obtain ⟨r9_2011, rfl, rfl, g_2012⟩ := hq
  have hw : kW γ A [(z, .inr (11, [.int 0, .int n1, .ref z2, .int n3, .int n4, .int n5, .int n6, .long n7, .int n8, .int n9, .ref z10, .ref z11, .ref z12, .ref z13, .ref z14, .ref z15, .ref z16, .ref z17, .ref z18, .ref z19, .int n20, .int n21, .ref z22, .ref z23, .ref z24, .ref z25, .ref z26, .ref z27, .ref z28, .ref z29, .ref z30, .ref z31, .ref z32, .ref z33, .int n34, .long n35, .ref z36, .ref z37, .ref z38, .ref z39, .ref z40, .ref z41, .ref z42, .ref z43, .ref z44, .ref z45, .ref z46, .ref z47, .ref z48, .int n49, .int n50, .int n51, .int n52, .int n53, .int n54, .ref z55, .ref z56, .int n57, .int n58, .ref z59, .ref z60, .ref z61, .int n62, .long n63]))] s H locs := hw
  refine W.eq (g2 := F0 m 101 ls [.int r9_2011, .int r9_2009]) rfl ?_
  refine lv_icmp_gt (tgt := 145) hx hb dX12_rests_101 (by decide) (fun c101 => ?_) (fun c101 => ?_)
  · have hk1 : kcb 0 0 bo lo ge = false := kcb_f (a1 := 1) (by decide) g_2010 g_2012 (Int32.not_le.mpr c101)
    refine lv_iinc (v := 1) (lv' := [(6, .int 1), (8, .int 0), (7, .int 0), (5, .int mn), (0, .ref z), (1, .int bo), (2, .int lo), (3, .int ge), (4, .int wh)]) hx hb dX12_rests_145 hl (k := 2) rfl (by decide) (by decide) rfl (fun ls hl => ?_)
    refine lv_goto (tgt := 61) hx hb dX12_rests_148 (by decide) ?_
    exact mrn_3 z z2 z10 z11 z12 z13 z14 z15 z16 z17 z18 z19 z22 z23 z24 z25 z26 z27 z28 z29 z30 z31 z32 z33 z36 z37 z38 z39 z40 z41 z42 z43 z44 z45 z46 z47 z48 z55 z56 z59 z60 z61 n1 n3 n4 n5 n6 n7 n8 n9 n20 n21 n34 n35 n49 n50 n51 n52 n53 n54 n57 n58 n62 n63 bo lo ge wh mn (kR_n1 hK hk1) hC hr hlocks _ _ hw _ (lv_sub hl [0, 3, 4, 5, 6, 7, 8] rfl)
  · have hk1 : kcb 0 0 bo lo ge = true := kcb_t (a1 := 1) (by decide) g_2010 g_2012 (Int32.not_lt.mp c101)
    refine lv_iload_n hx hb dX12_rests_104 rfl (lv_at hl 5 rfl) ?_
    refine lv_iload_n hx hb dX12_rests_105 rfl (lv_at hl 6 rfl) ?_
    refine lv_iload_n hx hb dX12_rests_106 rfl (lv_at hl 7 rfl) ?_
    refine lv_iconst (v := 1) hx hb dX12_rests_107 (by decide) ?_
    refine lv_iload hx hb dX12_rests_108 (lv_at hl 0 rfl) ?_
    refine lv_isub hx hb dX12_rests_110 ?_
    refine lv_topi (fun x_2013 ex_2013 => ?_)
    obtain rfl : x_2013 = 1 := ex_2013.trans (by decide)
    refine lv_iload hx hb dX12_rests_111 (lv_at hl 1 rfl) ?_
    refine k_S (wr := [(z, .inr (11, [.int 0, .int n1, .ref z2, .int n3, .int n4, .int n5, .int n6, .long n7, .int n8, .int n9, .ref z10, .ref z11, .ref z12, .ref z13, .ref z14, .ref z15, .ref z16, .ref z17, .ref z18, .ref z19, .int n20, .int n21, .ref z22, .ref z23, .ref z24, .ref z25, .ref z26, .ref z27, .ref z28, .ref z29, .ref z30, .ref z31, .ref z32, .ref z33, .int n34, .long n35, .ref z36, .ref z37, .ref z38, .ref z39, .ref z40, .ref z41, .ref z42, .ref z43, .ref z44, .ref z45, .ref z46, .ref z47, .ref z48, .int n49, .int n50, .int n51, .int n52, .int n53, .int n54, .ref z55, .ref z56, .int n57, .int n58, .ref z59, .ref z60, .ref z61, .int n62, .long n63]))]) 5 gw_1784 gw_1785 gw_15 gw_1786 hd_X12_getsBy hC hw (c_X12_getsBy γ l bo lo ge 1 0) ⟨by decide, by decide⟩ ⟨by decide, by decide⟩ hl.1 rfl rfl (Nat.le_of_ble_eq_true rfl) [] [0] rfl rfl rfl rfl (by decide) dX12_rests_113 (fun r w1 H locs hq hw => ?_)
    obtain ⟨r9_2014, rfl, rfl, g_2015⟩ := hq
    have hw : kW γ A [(z, .inr (11, [.int 0, .int n1, .ref z2, .int n3, .int n4, .int n5, .int n6, .long n7, .int n8, .int n9, .ref z10, .ref z11, .ref z12, .ref z13, .ref z14, .ref z15, .ref z16, .ref z17, .ref z18, .ref z19, .int n20, .int n21, .ref z22, .ref z23, .ref z24, .ref z25, .ref z26, .ref z27, .ref z28, .ref z29, .ref z30, .ref z31, .ref z32, .ref z33, .int n34, .long n35, .ref z36, .ref z37, .ref z38, .ref z39, .ref z40, .ref z41, .ref z42, .ref z43, .ref z44, .ref z45, .ref z46, .ref z47, .ref z48, .int n49, .int n50, .int n51, .int n52, .int n53, .int n54, .ref z55, .ref z56, .int n57, .int n58, .ref z59, .ref z60, .ref z61, .int n62, .long n63]))] s H locs := hw
    refine W.eq (g2 := F0 m 116 ls [.int r9_2014]) rfl ?_
    refine lv_iload_n hx hb dX12_rests_116 rfl (lv_at hl 5 rfl) ?_
    refine lv_iload_n hx hb dX12_rests_117 rfl (lv_at hl 6 rfl) ?_
    refine lv_iload_n hx hb dX12_rests_118 rfl (lv_at hl 7 rfl) ?_
    refine lv_iload hx hb dX12_rests_119 (lv_at hl 0 rfl) ?_
    refine lv_iload hx hb dX12_rests_121 (lv_at hl 1 rfl) ?_
    refine k_S (wr := [(z, .inr (11, [.int 0, .int n1, .ref z2, .int n3, .int n4, .int n5, .int n6, .long n7, .int n8, .int n9, .ref z10, .ref z11, .ref z12, .ref z13, .ref z14, .ref z15, .ref z16, .ref z17, .ref z18, .ref z19, .int n20, .int n21, .ref z22, .ref z23, .ref z24, .ref z25, .ref z26, .ref z27, .ref z28, .ref z29, .ref z30, .ref z31, .ref z32, .ref z33, .int n34, .long n35, .ref z36, .ref z37, .ref z38, .ref z39, .ref z40, .ref z41, .ref z42, .ref z43, .ref z44, .ref z45, .ref z46, .ref z47, .ref z48, .int n49, .int n50, .int n51, .int n52, .int n53, .int n54, .ref z55, .ref z56, .int n57, .int n58, .ref z59, .ref z60, .ref z61, .int n62, .long n63]))]) 5 gw_1784 gw_1785 gw_15 gw_1786 hd_X12_getsBy hC hw (c_X12_getsBy γ l bo lo ge 0 0) ⟨by decide, by decide⟩ ⟨by decide, by decide⟩ hl.1 rfl rfl (Nat.le_of_ble_eq_true rfl) [] [0] rfl rfl rfl rfl (by decide) dX12_rests_123 (fun r w1 H locs hq hw => ?_)
    obtain ⟨r9_2016, rfl, rfl, g_2017⟩ := hq
    have hw : kW γ A [(z, .inr (11, [.int 0, .int n1, .ref z2, .int n3, .int n4, .int n5, .int n6, .long n7, .int n8, .int n9, .ref z10, .ref z11, .ref z12, .ref z13, .ref z14, .ref z15, .ref z16, .ref z17, .ref z18, .ref z19, .int n20, .int n21, .ref z22, .ref z23, .ref z24, .ref z25, .ref z26, .ref z27, .ref z28, .ref z29, .ref z30, .ref z31, .ref z32, .ref z33, .int n34, .long n35, .ref z36, .ref z37, .ref z38, .ref z39, .ref z40, .ref z41, .ref z42, .ref z43, .ref z44, .ref z45, .ref z46, .ref z47, .ref z48, .int n49, .int n50, .int n51, .int n52, .int n53, .int n54, .ref z55, .ref z56, .int n57, .int n58, .ref z59, .ref z60, .ref z61, .int n62, .long n63]))] s H locs := hw
    refine W.eq (g2 := F0 m 126 ls [.int r9_2016, .int r9_2014]) rfl ?_
    refine lv_icmp_le (tgt := 132) hx hb dX12_rests_126 (by decide) (fun c126 => ?_) (fun c126 => ?_)
    · have hk2 : kcb 0 0 bo lo ge = true := kcb_t (a1 := 1) (by decide) g_2015 g_2017 c126
      refine lv_iload hx hb dX12_rests_132 (lv_at hl 3 rfl) ?_
      refine lv_iload hx hb dX12_rests_134 (lv_at hl 8 rfl) ?_
      refine lv_icmp_ne (tgt := 142) hx hb dX12_rests_136 (by decide) (fun c136 => ?_) (fun c136 => ?_)
      · refine lv_iinc (v := (mn + 1)) (lv' := [(5, .int (mn + 1)), (8, .int 0), (7, .int 0), (6, .int 0), (0, .ref z), (1, .int bo), (2, .int lo), (3, .int ge), (4, .int wh)]) hx hb dX12_rests_142 hl (k := 3) rfl rfl (by decide) rfl (fun ls hl => ?_)
        refine lv_iinc (v := 1) (lv' := [(6, .int 1), (5, .int (mn + 1)), (8, .int 0), (7, .int 0), (0, .ref z), (1, .int bo), (2, .int lo), (3, .int ge), (4, .int wh)]) hx hb dX12_rests_145 hl (k := 3) rfl (by decide) (by decide) rfl (fun ls hl => ?_)
        refine lv_goto (tgt := 61) hx hb dX12_rests_148 (by decide) ?_
        exact mrn_3 z z2 z10 z11 z12 z13 z14 z15 z16 z17 z18 z19 z22 z23 z24 z25 z26 z27 z28 z29 z30 z31 z32 z33 z36 z37 z38 z39 z40 z41 z42 z43 z44 z45 z46 z47 z48 z55 z56 z59 z60 z61 n1 n3 n4 n5 n6 n7 n8 n9 n20 n21 n34 n35 n49 n50 n51 n52 n53 n54 n57 n58 n62 n63 bo lo ge wh (mn + 1) (kR_c hK hk1 hk2 c136) hC hr hlocks _ _ hw _ (lv_sub hl [0, 1, 4, 5, 6, 7, 8] rfl)
      · refine lv_iload hx hb dX12_rests_139 (lv_at hl 2 rfl) ?_
        exact absurd (kR_e hK hk1 hk2 c136) (by simp)
    · have hk2 : kcb 0 0 bo lo ge = false := kcb_f (a1 := 1) (by decide) g_2015 g_2017 c126
      refine lv_goto (tgt := 145) hx hb dX12_rests_129 (by decide) ?_
      refine lv_iinc (v := 1) (lv' := [(6, .int 1), (8, .int 0), (7, .int 0), (5, .int mn), (0, .ref z), (1, .int bo), (2, .int lo), (3, .int ge), (4, .int wh)]) hx hb dX12_rests_145 hl (k := 2) rfl (by decide) (by decide) rfl (fun ls hl => ?_)
      refine lv_goto (tgt := 61) hx hb dX12_rests_148 (by decide) ?_
      exact mrn_3 z z2 z10 z11 z12 z13 z14 z15 z16 z17 z18 z19 z22 z23 z24 z25 z26 z27 z28 z29 z30 z31 z32 z33 z36 z37 z38 z39 z40 z41 z42 z43 z44 z45 z46 z47 z48 z55 z56 z59 z60 z61 n1 n3 n4 n5 n6 n7 n8 n9 n20 n21 n34 n35 n49 n50 n51 n52 n53 n54 n57 n58 n62 n63 bo lo ge wh mn (kR_n2 hK hk2) hC hr hlocks _ _ hw _ (lv_sub hl [0, 3, 4, 5, 6, 7, 8] rfl)

set_option maxHeartbeats 4000000 in
set_option maxRecDepth 100000 in
theorem c_X12_rests_n (γ : kΓ) (l : Launch) (z : Nat) (z2 : Nat) (z10 : Nat) (z11 : Nat) (z12 : Nat) (z13 : Nat) (z14 : Nat) (z15 : Nat) (z16 : Nat) (z17 : Nat) (z18 : Nat) (z19 : Nat) (z22 : Nat) (z23 : Nat) (z24 : Nat) (z25 : Nat) (z26 : Nat) (z27 : Nat) (z28 : Nat) (z29 : Nat) (z30 : Nat) (z31 : Nat) (z32 : Nat) (z33 : Nat) (z36 : Nat) (z37 : Nat) (z38 : Nat) (z39 : Nat) (z40 : Nat) (z41 : Nat) (z42 : Nat) (z43 : Nat) (z44 : Nat) (z45 : Nat) (z46 : Nat) (z47 : Nat) (z48 : Nat) (z55 : Nat) (z56 : Nat) (z59 : Nat) (z60 : Nat) (z61 : Nat) (n0 : Int32) (n1 : Int32) (n3 : Int32) (n4 : Int32) (n5 : Int32) (n6 : Int32) (n7 : Int64) (n8 : Int32) (n9 : Int32) (n20 : Int32) (n21 : Int32) (n34 : Int32) (n35 : Int64) (n49 : Int32) (n50 : Int32) (n51 : Int32) (n52 : Int32) (n53 : Int32) (n54 : Int32) (n57 : Int32) (n58 : Int32) (n62 : Int32) (n63 : Int64) (bo : Int32) (lo : Int32) (ge : Int32) (wh : Int32) (hb0 : ¬ bo < 0) (hb1 : ¬ 9 < bo) (hl0 : ¬ lo < 0) (hl1 : ¬ 9 < lo) (hg0 : ¬ ge < 0) (hg1 : ¬ 9 < ge) (hw0 : ¬ wh < -1) (hK : kR bo lo ge wh 4 0 = none) : kM γ l yX12_rests cX12_rests 9 ((some .int)) ({ frames := 1, cells := 0, slots := 0, locals := 24 } : Room) [.ref z, .int bo, .int lo, .int ge, .int wh] [(z, .inr (11, [.int n0, .int n1, .ref z2, .int n3, .int n4, .int n5, .int n6, .long n7, .int n8, .int n9, .ref z10, .ref z11, .ref z12, .ref z13, .ref z14, .ref z15, .ref z16, .ref z17, .ref z18, .ref z19, .int n20, .int n21, .ref z22, .ref z23, .ref z24, .ref z25, .ref z26, .ref z27, .ref z28, .ref z29, .ref z30, .ref z31, .ref z32, .ref z33, .int n34, .long n35, .ref z36, .ref z37, .ref z38, .ref z39, .ref z40, .ref z41, .ref z42, .ref z43, .ref z44, .ref z45, .ref z46, .ref z47, .ref z48, .int n49, .int n50, .int n51, .int n52, .int n53, .int n54, .ref z55, .ref z56, .int n57, .int n58, .ref z59, .ref z60, .ref z61, .int n62, .long n63]))] (fun r w1 => r = some (.int 0) ∧ w1 = [(z, .inr (11, [.int 1, .int n1, .ref z2, .int n3, .int n4, .int n5, .int n6, .long n7, .int n8, .int n9, .ref z10, .ref z11, .ref z12, .ref z13, .ref z14, .ref z15, .ref z16, .ref z17, .ref z18, .ref z19, .int n20, .int n21, .ref z22, .ref z23, .ref z24, .ref z25, .ref z26, .ref z27, .ref z28, .ref z29, .ref z30, .ref z31, .ref z32, .ref z33, .int n34, .long n35, .ref z36, .ref z37, .ref z38, .ref z39, .ref z40, .ref z41, .ref z42, .ref z43, .ref z44, .ref z45, .ref z46, .ref z47, .ref z48, .int n49, .int n50, .int n51, .int n52, .int n53, .int n54, .ref z55, .ref z56, .int n57, .int n58, .ref z59, .ref z60, .ref z61, .int n62, .long n63]))]) := by
  refine k_ofW (by decide) (Nat.le_of_ble_eq_true rfl) ?_
  intro p e s m below meth c A ls hC hr hlocks hname hw hl
  have hx := hC.1
  have hb := hC.2.1
  have hl : lv_has ls 9 [(0, .ref z), (1, .int bo), (2, .int lo), (3, .int ge), (4, .int wh)] := hl
  refine lv_aload_n hx hb dX12_rests_0 rfl (lv_at hl 0 rfl) ?_
  refine lv_iload_n hx hb dX12_rests_1 rfl (lv_at hl 1 rfl) ?_
  refine lv_iconst (v := 0) hx hb dX12_rests_2 (by decide) ?_
  refine lv_bipush (v := 9) hx hb dX12_rests_3 (by decide) ?_
  refine k_S (wr := [(z, .inr (11, [.int n0, .int n1, .ref z2, .int n3, .int n4, .int n5, .int n6, .long n7, .int n8, .int n9, .ref z10, .ref z11, .ref z12, .ref z13, .ref z14, .ref z15, .ref z16, .ref z17, .ref z18, .ref z19, .int n20, .int n21, .ref z22, .ref z23, .ref z24, .ref z25, .ref z26, .ref z27, .ref z28, .ref z29, .ref z30, .ref z31, .ref z32, .ref z33, .int n34, .long n35, .ref z36, .ref z37, .ref z38, .ref z39, .ref z40, .ref z41, .ref z42, .ref z43, .ref z44, .ref z45, .ref z46, .ref z47, .ref z48, .int n49, .int n50, .int n51, .int n52, .int n53, .int n54, .ref z55, .ref z56, .int n57, .int n58, .ref z59, .ref z60, .ref z61, .int n62, .long n63]))]) 3 gw_1472 gw_1473 gw_15 gw_1474 hd_X12_within hC hw (c_within_t γ l bo 0 9 hb0 hb1) ⟨by decide, by decide⟩ ⟨by decide, by decide⟩ hl.1 rfl rfl (Nat.le_of_ble_eq_true rfl) [] [0] rfl rfl rfl rfl (by decide) dX12_rests_5 (fun r w1 H locs hq hw => ?_)
  obtain ⟨rfl, rfl⟩ := hq
  have hw : kW γ A [(z, .inr (11, [.int n0, .int n1, .ref z2, .int n3, .int n4, .int n5, .int n6, .long n7, .int n8, .int n9, .ref z10, .ref z11, .ref z12, .ref z13, .ref z14, .ref z15, .ref z16, .ref z17, .ref z18, .ref z19, .int n20, .int n21, .ref z22, .ref z23, .ref z24, .ref z25, .ref z26, .ref z27, .ref z28, .ref z29, .ref z30, .ref z31, .ref z32, .ref z33, .int n34, .long n35, .ref z36, .ref z37, .ref z38, .ref z39, .ref z40, .ref z41, .ref z42, .ref z43, .ref z44, .ref z45, .ref z46, .ref z47, .ref z48, .int n49, .int n50, .int n51, .int n52, .int n53, .int n54, .ref z55, .ref z56, .int n57, .int n58, .ref z59, .ref z60, .ref z61, .int n62, .long n63]))] s H locs := hw
  refine W.eq (g2 := F0 m 8 ls [.int 1, .ref z]) rfl ?_
  refine lv_if_eq (tgt := 41) hx hb dX12_rests_8 (by decide) (fun h => absurd h (by decide)) (fun _ => ?_)
  refine lv_iload_n hx hb dX12_rests_11 rfl (lv_at hl 2 rfl) ?_
  refine lv_iconst (v := 0) hx hb dX12_rests_12 (by decide) ?_
  refine lv_bipush (v := 9) hx hb dX12_rests_13 (by decide) ?_
  refine k_S (wr := [(z, .inr (11, [.int n0, .int n1, .ref z2, .int n3, .int n4, .int n5, .int n6, .long n7, .int n8, .int n9, .ref z10, .ref z11, .ref z12, .ref z13, .ref z14, .ref z15, .ref z16, .ref z17, .ref z18, .ref z19, .int n20, .int n21, .ref z22, .ref z23, .ref z24, .ref z25, .ref z26, .ref z27, .ref z28, .ref z29, .ref z30, .ref z31, .ref z32, .ref z33, .int n34, .long n35, .ref z36, .ref z37, .ref z38, .ref z39, .ref z40, .ref z41, .ref z42, .ref z43, .ref z44, .ref z45, .ref z46, .ref z47, .ref z48, .int n49, .int n50, .int n51, .int n52, .int n53, .int n54, .ref z55, .ref z56, .int n57, .int n58, .ref z59, .ref z60, .ref z61, .int n62, .long n63]))]) 3 gw_1472 gw_1473 gw_15 gw_1474 hd_X12_within hC hw (c_within_t γ l lo 0 9 hl0 hl1) ⟨by decide, by decide⟩ ⟨by decide, by decide⟩ hl.1 rfl rfl (Nat.le_of_ble_eq_true rfl) [] [0] rfl rfl rfl rfl (by decide) dX12_rests_15 (fun r w1 H locs hq hw => ?_)
  obtain ⟨rfl, rfl⟩ := hq
  have hw : kW γ A [(z, .inr (11, [.int n0, .int n1, .ref z2, .int n3, .int n4, .int n5, .int n6, .long n7, .int n8, .int n9, .ref z10, .ref z11, .ref z12, .ref z13, .ref z14, .ref z15, .ref z16, .ref z17, .ref z18, .ref z19, .int n20, .int n21, .ref z22, .ref z23, .ref z24, .ref z25, .ref z26, .ref z27, .ref z28, .ref z29, .ref z30, .ref z31, .ref z32, .ref z33, .int n34, .long n35, .ref z36, .ref z37, .ref z38, .ref z39, .ref z40, .ref z41, .ref z42, .ref z43, .ref z44, .ref z45, .ref z46, .ref z47, .ref z48, .int n49, .int n50, .int n51, .int n52, .int n53, .int n54, .ref z55, .ref z56, .int n57, .int n58, .ref z59, .ref z60, .ref z61, .int n62, .long n63]))] s H locs := hw
  refine W.eq (g2 := F0 m 18 ls [.int 1, .ref z]) rfl ?_
  refine lv_if_eq (tgt := 41) hx hb dX12_rests_18 (by decide) (fun h => absurd h (by decide)) (fun _ => ?_)
  refine lv_iload_n hx hb dX12_rests_21 rfl (lv_at hl 3 rfl) ?_
  refine lv_iconst (v := 0) hx hb dX12_rests_22 (by decide) ?_
  refine lv_bipush (v := 9) hx hb dX12_rests_23 (by decide) ?_
  refine k_S (wr := [(z, .inr (11, [.int n0, .int n1, .ref z2, .int n3, .int n4, .int n5, .int n6, .long n7, .int n8, .int n9, .ref z10, .ref z11, .ref z12, .ref z13, .ref z14, .ref z15, .ref z16, .ref z17, .ref z18, .ref z19, .int n20, .int n21, .ref z22, .ref z23, .ref z24, .ref z25, .ref z26, .ref z27, .ref z28, .ref z29, .ref z30, .ref z31, .ref z32, .ref z33, .int n34, .long n35, .ref z36, .ref z37, .ref z38, .ref z39, .ref z40, .ref z41, .ref z42, .ref z43, .ref z44, .ref z45, .ref z46, .ref z47, .ref z48, .int n49, .int n50, .int n51, .int n52, .int n53, .int n54, .ref z55, .ref z56, .int n57, .int n58, .ref z59, .ref z60, .ref z61, .int n62, .long n63]))]) 3 gw_1472 gw_1473 gw_15 gw_1474 hd_X12_within hC hw (c_within_t γ l ge 0 9 hg0 hg1) ⟨by decide, by decide⟩ ⟨by decide, by decide⟩ hl.1 rfl rfl (Nat.le_of_ble_eq_true rfl) [] [0] rfl rfl rfl rfl (by decide) dX12_rests_25 (fun r w1 H locs hq hw => ?_)
  obtain ⟨rfl, rfl⟩ := hq
  have hw : kW γ A [(z, .inr (11, [.int n0, .int n1, .ref z2, .int n3, .int n4, .int n5, .int n6, .long n7, .int n8, .int n9, .ref z10, .ref z11, .ref z12, .ref z13, .ref z14, .ref z15, .ref z16, .ref z17, .ref z18, .ref z19, .int n20, .int n21, .ref z22, .ref z23, .ref z24, .ref z25, .ref z26, .ref z27, .ref z28, .ref z29, .ref z30, .ref z31, .ref z32, .ref z33, .int n34, .long n35, .ref z36, .ref z37, .ref z38, .ref z39, .ref z40, .ref z41, .ref z42, .ref z43, .ref z44, .ref z45, .ref z46, .ref z47, .ref z48, .int n49, .int n50, .int n51, .int n52, .int n53, .int n54, .ref z55, .ref z56, .int n57, .int n58, .ref z59, .ref z60, .ref z61, .int n62, .long n63]))] s H locs := hw
  refine W.eq (g2 := F0 m 28 ls [.int 1, .ref z]) rfl ?_
  refine lv_if_eq (tgt := 41) hx hb dX12_rests_28 (by decide) (fun h => absurd h (by decide)) (fun _ => ?_)
  refine lv_iload hx hb dX12_rests_31 (lv_at hl 4 rfl) ?_
  refine lv_iconst (v := (-1)) hx hb dX12_rests_33 (by decide) ?_
  refine lv_icmp_lt (tgt := 41) hx hb dX12_rests_34 (by decide) (fun h => absurd h hw0) (fun _ => ?_)
  refine lv_iconst (v := 0) hx hb dX12_rests_37 (by decide) ?_
  refine lv_goto (tgt := 42) hx hb dX12_rests_38 (by decide) ?_
  refine fs_RX12_143 hC hw 0 rfl rfl rfl (Nat.le_of_ble_eq_true rfl) dX12_rests_42 (fun H locs hw => ?_)
  have hw : kW γ A [(z, .inr (11, [.int 0, .int n1, .ref z2, .int n3, .int n4, .int n5, .int n6, .long n7, .int n8, .int n9, .ref z10, .ref z11, .ref z12, .ref z13, .ref z14, .ref z15, .ref z16, .ref z17, .ref z18, .ref z19, .int n20, .int n21, .ref z22, .ref z23, .ref z24, .ref z25, .ref z26, .ref z27, .ref z28, .ref z29, .ref z30, .ref z31, .ref z32, .ref z33, .int n34, .long n35, .ref z36, .ref z37, .ref z38, .ref z39, .ref z40, .ref z41, .ref z42, .ref z43, .ref z44, .ref z45, .ref z46, .ref z47, .ref z48, .int n49, .int n50, .int n51, .int n52, .int n53, .int n54, .ref z55, .ref z56, .int n57, .int n58, .ref z59, .ref z60, .ref z61, .int n62, .long n63]))] s H locs := hw
  refine lv_aload_n hx hb dX12_rests_45 rfl (lv_at hl 0 rfl) ?_
  refine fg_RX12_143 hC hw 0 rfl rfl dX12_rests_46 ?_
  refine lv_iconst (v := 1) hx hb dX12_rests_49 (by decide) ?_
  refine lv_icmp_ne (tgt := 55) hx hb dX12_rests_50 (by decide) (fun _ => ?_) (fun h => absurd h (by decide))
  refine lv_iconst (v := 0) hx hb dX12_rests_55 (by decide) ?_
  refine lv_istore (lv' := [(5, .int 0), (0, .ref z), (1, .int bo), (2, .int lo), (3, .int ge), (4, .int wh)]) hx hb dX12_rests_56 hl (by decide) rfl (fun ls hl => ?_)
  refine lv_iconst (v := 0) hx hb dX12_rests_58 (by decide) ?_
  refine lv_istore (lv' := [(6, .int 0), (5, .int 0), (0, .ref z), (1, .int bo), (2, .int lo), (3, .int ge), (4, .int wh)]) hx hb dX12_rests_59 hl (by decide) rfl (fun ls hl => ?_)
  exact mrn_4 z z2 z10 z11 z12 z13 z14 z15 z16 z17 z18 z19 z22 z23 z24 z25 z26 z27 z28 z29 z30 z31 z32 z33 z36 z37 z38 z39 z40 z41 z42 z43 z44 z45 z46 z47 z48 z55 z56 z59 z60 z61 n1 n3 n4 n5 n6 n7 n8 n9 n20 n21 n34 n35 n49 n50 n51 n52 n53 n54 n57 n58 n62 n63 bo lo ge wh 0 hK hC hr hlocks _ _ hw _ (lv_sub hl [0, 1, 2, 3, 4, 5, 6] rfl)

set_option maxHeartbeats 4000000 in
set_option maxRecDepth 100000 in
theorem c_X12_rests_bo_l (γ : kΓ) (l : Launch) (z : Nat) (z2 : Nat) (z10 : Nat) (z11 : Nat) (z12 : Nat) (z13 : Nat) (z14 : Nat) (z15 : Nat) (z16 : Nat) (z17 : Nat) (z18 : Nat) (z19 : Nat) (z22 : Nat) (z23 : Nat) (z24 : Nat) (z25 : Nat) (z26 : Nat) (z27 : Nat) (z28 : Nat) (z29 : Nat) (z30 : Nat) (z31 : Nat) (z32 : Nat) (z33 : Nat) (z36 : Nat) (z37 : Nat) (z38 : Nat) (z39 : Nat) (z40 : Nat) (z41 : Nat) (z42 : Nat) (z43 : Nat) (z44 : Nat) (z45 : Nat) (z46 : Nat) (z47 : Nat) (z48 : Nat) (z55 : Nat) (z56 : Nat) (z59 : Nat) (z60 : Nat) (z61 : Nat) (n0 : Int32) (n1 : Int32) (n3 : Int32) (n4 : Int32) (n5 : Int32) (n6 : Int32) (n7 : Int64) (n8 : Int32) (n9 : Int32) (n20 : Int32) (n21 : Int32) (n34 : Int32) (n35 : Int64) (n49 : Int32) (n50 : Int32) (n51 : Int32) (n52 : Int32) (n53 : Int32) (n54 : Int32) (n57 : Int32) (n58 : Int32) (n62 : Int32) (n63 : Int64) (bo : Int32) (lo : Int32) (ge : Int32) (wh : Int32) (h1 : bo < 0) : kM γ l yX12_rests cX12_rests 9 ((some .int)) ({ frames := 1, cells := 0, slots := 0, locals := 22 } : Room) [.ref z, .int bo, .int lo, .int ge, .int wh] [(z, .inr (11, [.int n0, .int n1, .ref z2, .int n3, .int n4, .int n5, .int n6, .long n7, .int n8, .int n9, .ref z10, .ref z11, .ref z12, .ref z13, .ref z14, .ref z15, .ref z16, .ref z17, .ref z18, .ref z19, .int n20, .int n21, .ref z22, .ref z23, .ref z24, .ref z25, .ref z26, .ref z27, .ref z28, .ref z29, .ref z30, .ref z31, .ref z32, .ref z33, .int n34, .long n35, .ref z36, .ref z37, .ref z38, .ref z39, .ref z40, .ref z41, .ref z42, .ref z43, .ref z44, .ref z45, .ref z46, .ref z47, .ref z48, .int n49, .int n50, .int n51, .int n52, .int n53, .int n54, .ref z55, .ref z56, .int n57, .int n58, .ref z59, .ref z60, .ref z61, .int n62, .long n63]))] (fun r w1 => r = some (.int 0) ∧ w1 = [(z, .inr (11, [.int 1, .int n1, .ref z2, .int n3, .int n4, .int n5, .int n6, .long n7, .int n8, .int n9, .ref z10, .ref z11, .ref z12, .ref z13, .ref z14, .ref z15, .ref z16, .ref z17, .ref z18, .ref z19, .int n20, .int n21, .ref z22, .ref z23, .ref z24, .ref z25, .ref z26, .ref z27, .ref z28, .ref z29, .ref z30, .ref z31, .ref z32, .ref z33, .int n34, .long n35, .ref z36, .ref z37, .ref z38, .ref z39, .ref z40, .ref z41, .ref z42, .ref z43, .ref z44, .ref z45, .ref z46, .ref z47, .ref z48, .int n49, .int n50, .int n51, .int n52, .int n53, .int n54, .ref z55, .ref z56, .int n57, .int n58, .ref z59, .ref z60, .ref z61, .int n62, .long n63]))]) := by
  refine k_ofW (by decide) (Nat.le_of_ble_eq_true rfl) ?_
  intro p e s m below meth c A ls hC hr hlocks hname hw hl
  have hx := hC.1
  have hb := hC.2.1
  have hl : lv_has ls 9 [(0, .ref z), (1, .int bo), (2, .int lo), (3, .int ge), (4, .int wh)] := hl
  refine lv_aload_n hx hb dX12_rests_0 rfl (lv_at hl 0 rfl) ?_
  refine lv_iload_n hx hb dX12_rests_1 rfl (lv_at hl 1 rfl) ?_
  refine lv_iconst (v := 0) hx hb dX12_rests_2 (by decide) ?_
  refine lv_bipush (v := 9) hx hb dX12_rests_3 (by decide) ?_
  refine k_S (wr := [(z, .inr (11, [.int n0, .int n1, .ref z2, .int n3, .int n4, .int n5, .int n6, .long n7, .int n8, .int n9, .ref z10, .ref z11, .ref z12, .ref z13, .ref z14, .ref z15, .ref z16, .ref z17, .ref z18, .ref z19, .int n20, .int n21, .ref z22, .ref z23, .ref z24, .ref z25, .ref z26, .ref z27, .ref z28, .ref z29, .ref z30, .ref z31, .ref z32, .ref z33, .int n34, .long n35, .ref z36, .ref z37, .ref z38, .ref z39, .ref z40, .ref z41, .ref z42, .ref z43, .ref z44, .ref z45, .ref z46, .ref z47, .ref z48, .int n49, .int n50, .int n51, .int n52, .int n53, .int n54, .ref z55, .ref z56, .int n57, .int n58, .ref z59, .ref z60, .ref z61, .int n62, .long n63]))]) 3 gw_1472 gw_1473 gw_15 gw_1474 hd_X12_within hC hw (c_within_l γ l bo 0 9 h1) ⟨by decide, by decide⟩ ⟨by decide, by decide⟩ hl.1 rfl rfl (Nat.le_of_ble_eq_true rfl) [] [0] rfl rfl rfl rfl (by decide) dX12_rests_5 (fun r w1 H locs hq hw => ?_)
  obtain ⟨rfl, rfl⟩ := hq
  have hw : kW γ A [(z, .inr (11, [.int n0, .int n1, .ref z2, .int n3, .int n4, .int n5, .int n6, .long n7, .int n8, .int n9, .ref z10, .ref z11, .ref z12, .ref z13, .ref z14, .ref z15, .ref z16, .ref z17, .ref z18, .ref z19, .int n20, .int n21, .ref z22, .ref z23, .ref z24, .ref z25, .ref z26, .ref z27, .ref z28, .ref z29, .ref z30, .ref z31, .ref z32, .ref z33, .int n34, .long n35, .ref z36, .ref z37, .ref z38, .ref z39, .ref z40, .ref z41, .ref z42, .ref z43, .ref z44, .ref z45, .ref z46, .ref z47, .ref z48, .int n49, .int n50, .int n51, .int n52, .int n53, .int n54, .ref z55, .ref z56, .int n57, .int n58, .ref z59, .ref z60, .ref z61, .int n62, .long n63]))] s H locs := hw
  refine W.eq (g2 := F0 m 8 ls [.int 0, .ref z]) rfl ?_
  refine lv_if_eq (tgt := 41) hx hb dX12_rests_8 (by decide) (fun _ => ?_) (fun h => absurd (by decide) h)
  refine lv_iconst (v := 1) hx hb dX12_rests_41 (by decide) ?_
  refine fs_RX12_143 hC hw 0 rfl rfl rfl (Nat.le_of_ble_eq_true rfl) dX12_rests_42 (fun H locs hw => ?_)
  have hw : kW γ A [(z, .inr (11, [.int 1, .int n1, .ref z2, .int n3, .int n4, .int n5, .int n6, .long n7, .int n8, .int n9, .ref z10, .ref z11, .ref z12, .ref z13, .ref z14, .ref z15, .ref z16, .ref z17, .ref z18, .ref z19, .int n20, .int n21, .ref z22, .ref z23, .ref z24, .ref z25, .ref z26, .ref z27, .ref z28, .ref z29, .ref z30, .ref z31, .ref z32, .ref z33, .int n34, .long n35, .ref z36, .ref z37, .ref z38, .ref z39, .ref z40, .ref z41, .ref z42, .ref z43, .ref z44, .ref z45, .ref z46, .ref z47, .ref z48, .int n49, .int n50, .int n51, .int n52, .int n53, .int n54, .ref z55, .ref z56, .int n57, .int n58, .ref z59, .ref z60, .ref z61, .int n62, .long n63]))] s H locs := hw
  refine lv_aload_n hx hb dX12_rests_45 rfl (lv_at hl 0 rfl) ?_
  refine fg_RX12_143 hC hw 0 rfl rfl dX12_rests_46 ?_
  refine lv_iconst (v := 1) hx hb dX12_rests_49 (by decide) ?_
  refine lv_icmp_ne (tgt := 55) hx hb dX12_rests_50 (by decide) (fun h => absurd rfl h) (fun _ => ?_)
  refine lv_iconst (v := 0) hx hb dX12_rests_53 (by decide) ?_
  exact k_iret hC hr hlocks hw [0] rfl rfl ⟨rfl, rfl⟩ (by decide) (by decide) dX12_rests_54

set_option maxHeartbeats 4000000 in
set_option maxRecDepth 100000 in
theorem c_X12_rests_bo_h (γ : kΓ) (l : Launch) (z : Nat) (z2 : Nat) (z10 : Nat) (z11 : Nat) (z12 : Nat) (z13 : Nat) (z14 : Nat) (z15 : Nat) (z16 : Nat) (z17 : Nat) (z18 : Nat) (z19 : Nat) (z22 : Nat) (z23 : Nat) (z24 : Nat) (z25 : Nat) (z26 : Nat) (z27 : Nat) (z28 : Nat) (z29 : Nat) (z30 : Nat) (z31 : Nat) (z32 : Nat) (z33 : Nat) (z36 : Nat) (z37 : Nat) (z38 : Nat) (z39 : Nat) (z40 : Nat) (z41 : Nat) (z42 : Nat) (z43 : Nat) (z44 : Nat) (z45 : Nat) (z46 : Nat) (z47 : Nat) (z48 : Nat) (z55 : Nat) (z56 : Nat) (z59 : Nat) (z60 : Nat) (z61 : Nat) (n0 : Int32) (n1 : Int32) (n3 : Int32) (n4 : Int32) (n5 : Int32) (n6 : Int32) (n7 : Int64) (n8 : Int32) (n9 : Int32) (n20 : Int32) (n21 : Int32) (n34 : Int32) (n35 : Int64) (n49 : Int32) (n50 : Int32) (n51 : Int32) (n52 : Int32) (n53 : Int32) (n54 : Int32) (n57 : Int32) (n58 : Int32) (n62 : Int32) (n63 : Int64) (bo : Int32) (lo : Int32) (ge : Int32) (wh : Int32) (h1 : ¬ bo < 0) (h2 : 9 < bo) : kM γ l yX12_rests cX12_rests 9 ((some .int)) ({ frames := 1, cells := 0, slots := 0, locals := 22 } : Room) [.ref z, .int bo, .int lo, .int ge, .int wh] [(z, .inr (11, [.int n0, .int n1, .ref z2, .int n3, .int n4, .int n5, .int n6, .long n7, .int n8, .int n9, .ref z10, .ref z11, .ref z12, .ref z13, .ref z14, .ref z15, .ref z16, .ref z17, .ref z18, .ref z19, .int n20, .int n21, .ref z22, .ref z23, .ref z24, .ref z25, .ref z26, .ref z27, .ref z28, .ref z29, .ref z30, .ref z31, .ref z32, .ref z33, .int n34, .long n35, .ref z36, .ref z37, .ref z38, .ref z39, .ref z40, .ref z41, .ref z42, .ref z43, .ref z44, .ref z45, .ref z46, .ref z47, .ref z48, .int n49, .int n50, .int n51, .int n52, .int n53, .int n54, .ref z55, .ref z56, .int n57, .int n58, .ref z59, .ref z60, .ref z61, .int n62, .long n63]))] (fun r w1 => r = some (.int 0) ∧ w1 = [(z, .inr (11, [.int 1, .int n1, .ref z2, .int n3, .int n4, .int n5, .int n6, .long n7, .int n8, .int n9, .ref z10, .ref z11, .ref z12, .ref z13, .ref z14, .ref z15, .ref z16, .ref z17, .ref z18, .ref z19, .int n20, .int n21, .ref z22, .ref z23, .ref z24, .ref z25, .ref z26, .ref z27, .ref z28, .ref z29, .ref z30, .ref z31, .ref z32, .ref z33, .int n34, .long n35, .ref z36, .ref z37, .ref z38, .ref z39, .ref z40, .ref z41, .ref z42, .ref z43, .ref z44, .ref z45, .ref z46, .ref z47, .ref z48, .int n49, .int n50, .int n51, .int n52, .int n53, .int n54, .ref z55, .ref z56, .int n57, .int n58, .ref z59, .ref z60, .ref z61, .int n62, .long n63]))]) := by
  refine k_ofW (by decide) (Nat.le_of_ble_eq_true rfl) ?_
  intro p e s m below meth c A ls hC hr hlocks hname hw hl
  have hx := hC.1
  have hb := hC.2.1
  have hl : lv_has ls 9 [(0, .ref z), (1, .int bo), (2, .int lo), (3, .int ge), (4, .int wh)] := hl
  refine lv_aload_n hx hb dX12_rests_0 rfl (lv_at hl 0 rfl) ?_
  refine lv_iload_n hx hb dX12_rests_1 rfl (lv_at hl 1 rfl) ?_
  refine lv_iconst (v := 0) hx hb dX12_rests_2 (by decide) ?_
  refine lv_bipush (v := 9) hx hb dX12_rests_3 (by decide) ?_
  refine k_S (wr := [(z, .inr (11, [.int n0, .int n1, .ref z2, .int n3, .int n4, .int n5, .int n6, .long n7, .int n8, .int n9, .ref z10, .ref z11, .ref z12, .ref z13, .ref z14, .ref z15, .ref z16, .ref z17, .ref z18, .ref z19, .int n20, .int n21, .ref z22, .ref z23, .ref z24, .ref z25, .ref z26, .ref z27, .ref z28, .ref z29, .ref z30, .ref z31, .ref z32, .ref z33, .int n34, .long n35, .ref z36, .ref z37, .ref z38, .ref z39, .ref z40, .ref z41, .ref z42, .ref z43, .ref z44, .ref z45, .ref z46, .ref z47, .ref z48, .int n49, .int n50, .int n51, .int n52, .int n53, .int n54, .ref z55, .ref z56, .int n57, .int n58, .ref z59, .ref z60, .ref z61, .int n62, .long n63]))]) 3 gw_1472 gw_1473 gw_15 gw_1474 hd_X12_within hC hw (c_within_h γ l bo 0 9 h1 h2) ⟨by decide, by decide⟩ ⟨by decide, by decide⟩ hl.1 rfl rfl (Nat.le_of_ble_eq_true rfl) [] [0] rfl rfl rfl rfl (by decide) dX12_rests_5 (fun r w1 H locs hq hw => ?_)
  obtain ⟨rfl, rfl⟩ := hq
  have hw : kW γ A [(z, .inr (11, [.int n0, .int n1, .ref z2, .int n3, .int n4, .int n5, .int n6, .long n7, .int n8, .int n9, .ref z10, .ref z11, .ref z12, .ref z13, .ref z14, .ref z15, .ref z16, .ref z17, .ref z18, .ref z19, .int n20, .int n21, .ref z22, .ref z23, .ref z24, .ref z25, .ref z26, .ref z27, .ref z28, .ref z29, .ref z30, .ref z31, .ref z32, .ref z33, .int n34, .long n35, .ref z36, .ref z37, .ref z38, .ref z39, .ref z40, .ref z41, .ref z42, .ref z43, .ref z44, .ref z45, .ref z46, .ref z47, .ref z48, .int n49, .int n50, .int n51, .int n52, .int n53, .int n54, .ref z55, .ref z56, .int n57, .int n58, .ref z59, .ref z60, .ref z61, .int n62, .long n63]))] s H locs := hw
  refine W.eq (g2 := F0 m 8 ls [.int 0, .ref z]) rfl ?_
  refine lv_if_eq (tgt := 41) hx hb dX12_rests_8 (by decide) (fun _ => ?_) (fun h => absurd (by decide) h)
  refine lv_iconst (v := 1) hx hb dX12_rests_41 (by decide) ?_
  refine fs_RX12_143 hC hw 0 rfl rfl rfl (Nat.le_of_ble_eq_true rfl) dX12_rests_42 (fun H locs hw => ?_)
  have hw : kW γ A [(z, .inr (11, [.int 1, .int n1, .ref z2, .int n3, .int n4, .int n5, .int n6, .long n7, .int n8, .int n9, .ref z10, .ref z11, .ref z12, .ref z13, .ref z14, .ref z15, .ref z16, .ref z17, .ref z18, .ref z19, .int n20, .int n21, .ref z22, .ref z23, .ref z24, .ref z25, .ref z26, .ref z27, .ref z28, .ref z29, .ref z30, .ref z31, .ref z32, .ref z33, .int n34, .long n35, .ref z36, .ref z37, .ref z38, .ref z39, .ref z40, .ref z41, .ref z42, .ref z43, .ref z44, .ref z45, .ref z46, .ref z47, .ref z48, .int n49, .int n50, .int n51, .int n52, .int n53, .int n54, .ref z55, .ref z56, .int n57, .int n58, .ref z59, .ref z60, .ref z61, .int n62, .long n63]))] s H locs := hw
  refine lv_aload_n hx hb dX12_rests_45 rfl (lv_at hl 0 rfl) ?_
  refine fg_RX12_143 hC hw 0 rfl rfl dX12_rests_46 ?_
  refine lv_iconst (v := 1) hx hb dX12_rests_49 (by decide) ?_
  refine lv_icmp_ne (tgt := 55) hx hb dX12_rests_50 (by decide) (fun h => absurd rfl h) (fun _ => ?_)
  refine lv_iconst (v := 0) hx hb dX12_rests_53 (by decide) ?_
  exact k_iret hC hr hlocks hw [0] rfl rfl ⟨rfl, rfl⟩ (by decide) (by decide) dX12_rests_54

set_option maxHeartbeats 4000000 in
set_option maxRecDepth 100000 in
theorem c_X12_rests_lo_l (γ : kΓ) (l : Launch) (z : Nat) (z2 : Nat) (z10 : Nat) (z11 : Nat) (z12 : Nat) (z13 : Nat) (z14 : Nat) (z15 : Nat) (z16 : Nat) (z17 : Nat) (z18 : Nat) (z19 : Nat) (z22 : Nat) (z23 : Nat) (z24 : Nat) (z25 : Nat) (z26 : Nat) (z27 : Nat) (z28 : Nat) (z29 : Nat) (z30 : Nat) (z31 : Nat) (z32 : Nat) (z33 : Nat) (z36 : Nat) (z37 : Nat) (z38 : Nat) (z39 : Nat) (z40 : Nat) (z41 : Nat) (z42 : Nat) (z43 : Nat) (z44 : Nat) (z45 : Nat) (z46 : Nat) (z47 : Nat) (z48 : Nat) (z55 : Nat) (z56 : Nat) (z59 : Nat) (z60 : Nat) (z61 : Nat) (n0 : Int32) (n1 : Int32) (n3 : Int32) (n4 : Int32) (n5 : Int32) (n6 : Int32) (n7 : Int64) (n8 : Int32) (n9 : Int32) (n20 : Int32) (n21 : Int32) (n34 : Int32) (n35 : Int64) (n49 : Int32) (n50 : Int32) (n51 : Int32) (n52 : Int32) (n53 : Int32) (n54 : Int32) (n57 : Int32) (n58 : Int32) (n62 : Int32) (n63 : Int64) (bo : Int32) (lo : Int32) (ge : Int32) (wh : Int32) (hb0 : ¬ bo < 0) (hb1 : ¬ 9 < bo) (h1 : lo < 0) : kM γ l yX12_rests cX12_rests 9 ((some .int)) ({ frames := 1, cells := 0, slots := 0, locals := 22 } : Room) [.ref z, .int bo, .int lo, .int ge, .int wh] [(z, .inr (11, [.int n0, .int n1, .ref z2, .int n3, .int n4, .int n5, .int n6, .long n7, .int n8, .int n9, .ref z10, .ref z11, .ref z12, .ref z13, .ref z14, .ref z15, .ref z16, .ref z17, .ref z18, .ref z19, .int n20, .int n21, .ref z22, .ref z23, .ref z24, .ref z25, .ref z26, .ref z27, .ref z28, .ref z29, .ref z30, .ref z31, .ref z32, .ref z33, .int n34, .long n35, .ref z36, .ref z37, .ref z38, .ref z39, .ref z40, .ref z41, .ref z42, .ref z43, .ref z44, .ref z45, .ref z46, .ref z47, .ref z48, .int n49, .int n50, .int n51, .int n52, .int n53, .int n54, .ref z55, .ref z56, .int n57, .int n58, .ref z59, .ref z60, .ref z61, .int n62, .long n63]))] (fun r w1 => r = some (.int 0) ∧ w1 = [(z, .inr (11, [.int 1, .int n1, .ref z2, .int n3, .int n4, .int n5, .int n6, .long n7, .int n8, .int n9, .ref z10, .ref z11, .ref z12, .ref z13, .ref z14, .ref z15, .ref z16, .ref z17, .ref z18, .ref z19, .int n20, .int n21, .ref z22, .ref z23, .ref z24, .ref z25, .ref z26, .ref z27, .ref z28, .ref z29, .ref z30, .ref z31, .ref z32, .ref z33, .int n34, .long n35, .ref z36, .ref z37, .ref z38, .ref z39, .ref z40, .ref z41, .ref z42, .ref z43, .ref z44, .ref z45, .ref z46, .ref z47, .ref z48, .int n49, .int n50, .int n51, .int n52, .int n53, .int n54, .ref z55, .ref z56, .int n57, .int n58, .ref z59, .ref z60, .ref z61, .int n62, .long n63]))]) := by
  refine k_ofW (by decide) (Nat.le_of_ble_eq_true rfl) ?_
  intro p e s m below meth c A ls hC hr hlocks hname hw hl
  have hx := hC.1
  have hb := hC.2.1
  have hl : lv_has ls 9 [(0, .ref z), (1, .int bo), (2, .int lo), (3, .int ge), (4, .int wh)] := hl
  refine lv_aload_n hx hb dX12_rests_0 rfl (lv_at hl 0 rfl) ?_
  refine lv_iload_n hx hb dX12_rests_1 rfl (lv_at hl 1 rfl) ?_
  refine lv_iconst (v := 0) hx hb dX12_rests_2 (by decide) ?_
  refine lv_bipush (v := 9) hx hb dX12_rests_3 (by decide) ?_
  refine k_S (wr := [(z, .inr (11, [.int n0, .int n1, .ref z2, .int n3, .int n4, .int n5, .int n6, .long n7, .int n8, .int n9, .ref z10, .ref z11, .ref z12, .ref z13, .ref z14, .ref z15, .ref z16, .ref z17, .ref z18, .ref z19, .int n20, .int n21, .ref z22, .ref z23, .ref z24, .ref z25, .ref z26, .ref z27, .ref z28, .ref z29, .ref z30, .ref z31, .ref z32, .ref z33, .int n34, .long n35, .ref z36, .ref z37, .ref z38, .ref z39, .ref z40, .ref z41, .ref z42, .ref z43, .ref z44, .ref z45, .ref z46, .ref z47, .ref z48, .int n49, .int n50, .int n51, .int n52, .int n53, .int n54, .ref z55, .ref z56, .int n57, .int n58, .ref z59, .ref z60, .ref z61, .int n62, .long n63]))]) 3 gw_1472 gw_1473 gw_15 gw_1474 hd_X12_within hC hw (c_within_t γ l bo 0 9 hb0 hb1) ⟨by decide, by decide⟩ ⟨by decide, by decide⟩ hl.1 rfl rfl (Nat.le_of_ble_eq_true rfl) [] [0] rfl rfl rfl rfl (by decide) dX12_rests_5 (fun r w1 H locs hq hw => ?_)
  obtain ⟨rfl, rfl⟩ := hq
  have hw : kW γ A [(z, .inr (11, [.int n0, .int n1, .ref z2, .int n3, .int n4, .int n5, .int n6, .long n7, .int n8, .int n9, .ref z10, .ref z11, .ref z12, .ref z13, .ref z14, .ref z15, .ref z16, .ref z17, .ref z18, .ref z19, .int n20, .int n21, .ref z22, .ref z23, .ref z24, .ref z25, .ref z26, .ref z27, .ref z28, .ref z29, .ref z30, .ref z31, .ref z32, .ref z33, .int n34, .long n35, .ref z36, .ref z37, .ref z38, .ref z39, .ref z40, .ref z41, .ref z42, .ref z43, .ref z44, .ref z45, .ref z46, .ref z47, .ref z48, .int n49, .int n50, .int n51, .int n52, .int n53, .int n54, .ref z55, .ref z56, .int n57, .int n58, .ref z59, .ref z60, .ref z61, .int n62, .long n63]))] s H locs := hw
  refine W.eq (g2 := F0 m 8 ls [.int 1, .ref z]) rfl ?_
  refine lv_if_eq (tgt := 41) hx hb dX12_rests_8 (by decide) (fun h => absurd h (by decide)) (fun _ => ?_)
  refine lv_iload_n hx hb dX12_rests_11 rfl (lv_at hl 2 rfl) ?_
  refine lv_iconst (v := 0) hx hb dX12_rests_12 (by decide) ?_
  refine lv_bipush (v := 9) hx hb dX12_rests_13 (by decide) ?_
  refine k_S (wr := [(z, .inr (11, [.int n0, .int n1, .ref z2, .int n3, .int n4, .int n5, .int n6, .long n7, .int n8, .int n9, .ref z10, .ref z11, .ref z12, .ref z13, .ref z14, .ref z15, .ref z16, .ref z17, .ref z18, .ref z19, .int n20, .int n21, .ref z22, .ref z23, .ref z24, .ref z25, .ref z26, .ref z27, .ref z28, .ref z29, .ref z30, .ref z31, .ref z32, .ref z33, .int n34, .long n35, .ref z36, .ref z37, .ref z38, .ref z39, .ref z40, .ref z41, .ref z42, .ref z43, .ref z44, .ref z45, .ref z46, .ref z47, .ref z48, .int n49, .int n50, .int n51, .int n52, .int n53, .int n54, .ref z55, .ref z56, .int n57, .int n58, .ref z59, .ref z60, .ref z61, .int n62, .long n63]))]) 3 gw_1472 gw_1473 gw_15 gw_1474 hd_X12_within hC hw (c_within_l γ l lo 0 9 h1) ⟨by decide, by decide⟩ ⟨by decide, by decide⟩ hl.1 rfl rfl (Nat.le_of_ble_eq_true rfl) [] [0] rfl rfl rfl rfl (by decide) dX12_rests_15 (fun r w1 H locs hq hw => ?_)
  obtain ⟨rfl, rfl⟩ := hq
  have hw : kW γ A [(z, .inr (11, [.int n0, .int n1, .ref z2, .int n3, .int n4, .int n5, .int n6, .long n7, .int n8, .int n9, .ref z10, .ref z11, .ref z12, .ref z13, .ref z14, .ref z15, .ref z16, .ref z17, .ref z18, .ref z19, .int n20, .int n21, .ref z22, .ref z23, .ref z24, .ref z25, .ref z26, .ref z27, .ref z28, .ref z29, .ref z30, .ref z31, .ref z32, .ref z33, .int n34, .long n35, .ref z36, .ref z37, .ref z38, .ref z39, .ref z40, .ref z41, .ref z42, .ref z43, .ref z44, .ref z45, .ref z46, .ref z47, .ref z48, .int n49, .int n50, .int n51, .int n52, .int n53, .int n54, .ref z55, .ref z56, .int n57, .int n58, .ref z59, .ref z60, .ref z61, .int n62, .long n63]))] s H locs := hw
  refine W.eq (g2 := F0 m 18 ls [.int 0, .ref z]) rfl ?_
  refine lv_if_eq (tgt := 41) hx hb dX12_rests_18 (by decide) (fun _ => ?_) (fun h => absurd (by decide) h)
  refine lv_iconst (v := 1) hx hb dX12_rests_41 (by decide) ?_
  refine fs_RX12_143 hC hw 0 rfl rfl rfl (Nat.le_of_ble_eq_true rfl) dX12_rests_42 (fun H locs hw => ?_)
  have hw : kW γ A [(z, .inr (11, [.int 1, .int n1, .ref z2, .int n3, .int n4, .int n5, .int n6, .long n7, .int n8, .int n9, .ref z10, .ref z11, .ref z12, .ref z13, .ref z14, .ref z15, .ref z16, .ref z17, .ref z18, .ref z19, .int n20, .int n21, .ref z22, .ref z23, .ref z24, .ref z25, .ref z26, .ref z27, .ref z28, .ref z29, .ref z30, .ref z31, .ref z32, .ref z33, .int n34, .long n35, .ref z36, .ref z37, .ref z38, .ref z39, .ref z40, .ref z41, .ref z42, .ref z43, .ref z44, .ref z45, .ref z46, .ref z47, .ref z48, .int n49, .int n50, .int n51, .int n52, .int n53, .int n54, .ref z55, .ref z56, .int n57, .int n58, .ref z59, .ref z60, .ref z61, .int n62, .long n63]))] s H locs := hw
  refine lv_aload_n hx hb dX12_rests_45 rfl (lv_at hl 0 rfl) ?_
  refine fg_RX12_143 hC hw 0 rfl rfl dX12_rests_46 ?_
  refine lv_iconst (v := 1) hx hb dX12_rests_49 (by decide) ?_
  refine lv_icmp_ne (tgt := 55) hx hb dX12_rests_50 (by decide) (fun h => absurd rfl h) (fun _ => ?_)
  refine lv_iconst (v := 0) hx hb dX12_rests_53 (by decide) ?_
  exact k_iret hC hr hlocks hw [0] rfl rfl ⟨rfl, rfl⟩ (by decide) (by decide) dX12_rests_54

set_option maxHeartbeats 4000000 in
set_option maxRecDepth 100000 in
theorem c_X12_rests_lo_h (γ : kΓ) (l : Launch) (z : Nat) (z2 : Nat) (z10 : Nat) (z11 : Nat) (z12 : Nat) (z13 : Nat) (z14 : Nat) (z15 : Nat) (z16 : Nat) (z17 : Nat) (z18 : Nat) (z19 : Nat) (z22 : Nat) (z23 : Nat) (z24 : Nat) (z25 : Nat) (z26 : Nat) (z27 : Nat) (z28 : Nat) (z29 : Nat) (z30 : Nat) (z31 : Nat) (z32 : Nat) (z33 : Nat) (z36 : Nat) (z37 : Nat) (z38 : Nat) (z39 : Nat) (z40 : Nat) (z41 : Nat) (z42 : Nat) (z43 : Nat) (z44 : Nat) (z45 : Nat) (z46 : Nat) (z47 : Nat) (z48 : Nat) (z55 : Nat) (z56 : Nat) (z59 : Nat) (z60 : Nat) (z61 : Nat) (n0 : Int32) (n1 : Int32) (n3 : Int32) (n4 : Int32) (n5 : Int32) (n6 : Int32) (n7 : Int64) (n8 : Int32) (n9 : Int32) (n20 : Int32) (n21 : Int32) (n34 : Int32) (n35 : Int64) (n49 : Int32) (n50 : Int32) (n51 : Int32) (n52 : Int32) (n53 : Int32) (n54 : Int32) (n57 : Int32) (n58 : Int32) (n62 : Int32) (n63 : Int64) (bo : Int32) (lo : Int32) (ge : Int32) (wh : Int32) (hb0 : ¬ bo < 0) (hb1 : ¬ 9 < bo) (h1 : ¬ lo < 0) (h2 : 9 < lo) : kM γ l yX12_rests cX12_rests 9 ((some .int)) ({ frames := 1, cells := 0, slots := 0, locals := 22 } : Room) [.ref z, .int bo, .int lo, .int ge, .int wh] [(z, .inr (11, [.int n0, .int n1, .ref z2, .int n3, .int n4, .int n5, .int n6, .long n7, .int n8, .int n9, .ref z10, .ref z11, .ref z12, .ref z13, .ref z14, .ref z15, .ref z16, .ref z17, .ref z18, .ref z19, .int n20, .int n21, .ref z22, .ref z23, .ref z24, .ref z25, .ref z26, .ref z27, .ref z28, .ref z29, .ref z30, .ref z31, .ref z32, .ref z33, .int n34, .long n35, .ref z36, .ref z37, .ref z38, .ref z39, .ref z40, .ref z41, .ref z42, .ref z43, .ref z44, .ref z45, .ref z46, .ref z47, .ref z48, .int n49, .int n50, .int n51, .int n52, .int n53, .int n54, .ref z55, .ref z56, .int n57, .int n58, .ref z59, .ref z60, .ref z61, .int n62, .long n63]))] (fun r w1 => r = some (.int 0) ∧ w1 = [(z, .inr (11, [.int 1, .int n1, .ref z2, .int n3, .int n4, .int n5, .int n6, .long n7, .int n8, .int n9, .ref z10, .ref z11, .ref z12, .ref z13, .ref z14, .ref z15, .ref z16, .ref z17, .ref z18, .ref z19, .int n20, .int n21, .ref z22, .ref z23, .ref z24, .ref z25, .ref z26, .ref z27, .ref z28, .ref z29, .ref z30, .ref z31, .ref z32, .ref z33, .int n34, .long n35, .ref z36, .ref z37, .ref z38, .ref z39, .ref z40, .ref z41, .ref z42, .ref z43, .ref z44, .ref z45, .ref z46, .ref z47, .ref z48, .int n49, .int n50, .int n51, .int n52, .int n53, .int n54, .ref z55, .ref z56, .int n57, .int n58, .ref z59, .ref z60, .ref z61, .int n62, .long n63]))]) := by
  refine k_ofW (by decide) (Nat.le_of_ble_eq_true rfl) ?_
  intro p e s m below meth c A ls hC hr hlocks hname hw hl
  have hx := hC.1
  have hb := hC.2.1
  have hl : lv_has ls 9 [(0, .ref z), (1, .int bo), (2, .int lo), (3, .int ge), (4, .int wh)] := hl
  refine lv_aload_n hx hb dX12_rests_0 rfl (lv_at hl 0 rfl) ?_
  refine lv_iload_n hx hb dX12_rests_1 rfl (lv_at hl 1 rfl) ?_
  refine lv_iconst (v := 0) hx hb dX12_rests_2 (by decide) ?_
  refine lv_bipush (v := 9) hx hb dX12_rests_3 (by decide) ?_
  refine k_S (wr := [(z, .inr (11, [.int n0, .int n1, .ref z2, .int n3, .int n4, .int n5, .int n6, .long n7, .int n8, .int n9, .ref z10, .ref z11, .ref z12, .ref z13, .ref z14, .ref z15, .ref z16, .ref z17, .ref z18, .ref z19, .int n20, .int n21, .ref z22, .ref z23, .ref z24, .ref z25, .ref z26, .ref z27, .ref z28, .ref z29, .ref z30, .ref z31, .ref z32, .ref z33, .int n34, .long n35, .ref z36, .ref z37, .ref z38, .ref z39, .ref z40, .ref z41, .ref z42, .ref z43, .ref z44, .ref z45, .ref z46, .ref z47, .ref z48, .int n49, .int n50, .int n51, .int n52, .int n53, .int n54, .ref z55, .ref z56, .int n57, .int n58, .ref z59, .ref z60, .ref z61, .int n62, .long n63]))]) 3 gw_1472 gw_1473 gw_15 gw_1474 hd_X12_within hC hw (c_within_t γ l bo 0 9 hb0 hb1) ⟨by decide, by decide⟩ ⟨by decide, by decide⟩ hl.1 rfl rfl (Nat.le_of_ble_eq_true rfl) [] [0] rfl rfl rfl rfl (by decide) dX12_rests_5 (fun r w1 H locs hq hw => ?_)
  obtain ⟨rfl, rfl⟩ := hq
  have hw : kW γ A [(z, .inr (11, [.int n0, .int n1, .ref z2, .int n3, .int n4, .int n5, .int n6, .long n7, .int n8, .int n9, .ref z10, .ref z11, .ref z12, .ref z13, .ref z14, .ref z15, .ref z16, .ref z17, .ref z18, .ref z19, .int n20, .int n21, .ref z22, .ref z23, .ref z24, .ref z25, .ref z26, .ref z27, .ref z28, .ref z29, .ref z30, .ref z31, .ref z32, .ref z33, .int n34, .long n35, .ref z36, .ref z37, .ref z38, .ref z39, .ref z40, .ref z41, .ref z42, .ref z43, .ref z44, .ref z45, .ref z46, .ref z47, .ref z48, .int n49, .int n50, .int n51, .int n52, .int n53, .int n54, .ref z55, .ref z56, .int n57, .int n58, .ref z59, .ref z60, .ref z61, .int n62, .long n63]))] s H locs := hw
  refine W.eq (g2 := F0 m 8 ls [.int 1, .ref z]) rfl ?_
  refine lv_if_eq (tgt := 41) hx hb dX12_rests_8 (by decide) (fun h => absurd h (by decide)) (fun _ => ?_)
  refine lv_iload_n hx hb dX12_rests_11 rfl (lv_at hl 2 rfl) ?_
  refine lv_iconst (v := 0) hx hb dX12_rests_12 (by decide) ?_
  refine lv_bipush (v := 9) hx hb dX12_rests_13 (by decide) ?_
  refine k_S (wr := [(z, .inr (11, [.int n0, .int n1, .ref z2, .int n3, .int n4, .int n5, .int n6, .long n7, .int n8, .int n9, .ref z10, .ref z11, .ref z12, .ref z13, .ref z14, .ref z15, .ref z16, .ref z17, .ref z18, .ref z19, .int n20, .int n21, .ref z22, .ref z23, .ref z24, .ref z25, .ref z26, .ref z27, .ref z28, .ref z29, .ref z30, .ref z31, .ref z32, .ref z33, .int n34, .long n35, .ref z36, .ref z37, .ref z38, .ref z39, .ref z40, .ref z41, .ref z42, .ref z43, .ref z44, .ref z45, .ref z46, .ref z47, .ref z48, .int n49, .int n50, .int n51, .int n52, .int n53, .int n54, .ref z55, .ref z56, .int n57, .int n58, .ref z59, .ref z60, .ref z61, .int n62, .long n63]))]) 3 gw_1472 gw_1473 gw_15 gw_1474 hd_X12_within hC hw (c_within_h γ l lo 0 9 h1 h2) ⟨by decide, by decide⟩ ⟨by decide, by decide⟩ hl.1 rfl rfl (Nat.le_of_ble_eq_true rfl) [] [0] rfl rfl rfl rfl (by decide) dX12_rests_15 (fun r w1 H locs hq hw => ?_)
  obtain ⟨rfl, rfl⟩ := hq
  have hw : kW γ A [(z, .inr (11, [.int n0, .int n1, .ref z2, .int n3, .int n4, .int n5, .int n6, .long n7, .int n8, .int n9, .ref z10, .ref z11, .ref z12, .ref z13, .ref z14, .ref z15, .ref z16, .ref z17, .ref z18, .ref z19, .int n20, .int n21, .ref z22, .ref z23, .ref z24, .ref z25, .ref z26, .ref z27, .ref z28, .ref z29, .ref z30, .ref z31, .ref z32, .ref z33, .int n34, .long n35, .ref z36, .ref z37, .ref z38, .ref z39, .ref z40, .ref z41, .ref z42, .ref z43, .ref z44, .ref z45, .ref z46, .ref z47, .ref z48, .int n49, .int n50, .int n51, .int n52, .int n53, .int n54, .ref z55, .ref z56, .int n57, .int n58, .ref z59, .ref z60, .ref z61, .int n62, .long n63]))] s H locs := hw
  refine W.eq (g2 := F0 m 18 ls [.int 0, .ref z]) rfl ?_
  refine lv_if_eq (tgt := 41) hx hb dX12_rests_18 (by decide) (fun _ => ?_) (fun h => absurd (by decide) h)
  refine lv_iconst (v := 1) hx hb dX12_rests_41 (by decide) ?_
  refine fs_RX12_143 hC hw 0 rfl rfl rfl (Nat.le_of_ble_eq_true rfl) dX12_rests_42 (fun H locs hw => ?_)
  have hw : kW γ A [(z, .inr (11, [.int 1, .int n1, .ref z2, .int n3, .int n4, .int n5, .int n6, .long n7, .int n8, .int n9, .ref z10, .ref z11, .ref z12, .ref z13, .ref z14, .ref z15, .ref z16, .ref z17, .ref z18, .ref z19, .int n20, .int n21, .ref z22, .ref z23, .ref z24, .ref z25, .ref z26, .ref z27, .ref z28, .ref z29, .ref z30, .ref z31, .ref z32, .ref z33, .int n34, .long n35, .ref z36, .ref z37, .ref z38, .ref z39, .ref z40, .ref z41, .ref z42, .ref z43, .ref z44, .ref z45, .ref z46, .ref z47, .ref z48, .int n49, .int n50, .int n51, .int n52, .int n53, .int n54, .ref z55, .ref z56, .int n57, .int n58, .ref z59, .ref z60, .ref z61, .int n62, .long n63]))] s H locs := hw
  refine lv_aload_n hx hb dX12_rests_45 rfl (lv_at hl 0 rfl) ?_
  refine fg_RX12_143 hC hw 0 rfl rfl dX12_rests_46 ?_
  refine lv_iconst (v := 1) hx hb dX12_rests_49 (by decide) ?_
  refine lv_icmp_ne (tgt := 55) hx hb dX12_rests_50 (by decide) (fun h => absurd rfl h) (fun _ => ?_)
  refine lv_iconst (v := 0) hx hb dX12_rests_53 (by decide) ?_
  exact k_iret hC hr hlocks hw [0] rfl rfl ⟨rfl, rfl⟩ (by decide) (by decide) dX12_rests_54

set_option maxHeartbeats 4000000 in
set_option maxRecDepth 100000 in
theorem c_X12_rests_ge_l (γ : kΓ) (l : Launch) (z : Nat) (z2 : Nat) (z10 : Nat) (z11 : Nat) (z12 : Nat) (z13 : Nat) (z14 : Nat) (z15 : Nat) (z16 : Nat) (z17 : Nat) (z18 : Nat) (z19 : Nat) (z22 : Nat) (z23 : Nat) (z24 : Nat) (z25 : Nat) (z26 : Nat) (z27 : Nat) (z28 : Nat) (z29 : Nat) (z30 : Nat) (z31 : Nat) (z32 : Nat) (z33 : Nat) (z36 : Nat) (z37 : Nat) (z38 : Nat) (z39 : Nat) (z40 : Nat) (z41 : Nat) (z42 : Nat) (z43 : Nat) (z44 : Nat) (z45 : Nat) (z46 : Nat) (z47 : Nat) (z48 : Nat) (z55 : Nat) (z56 : Nat) (z59 : Nat) (z60 : Nat) (z61 : Nat) (n0 : Int32) (n1 : Int32) (n3 : Int32) (n4 : Int32) (n5 : Int32) (n6 : Int32) (n7 : Int64) (n8 : Int32) (n9 : Int32) (n20 : Int32) (n21 : Int32) (n34 : Int32) (n35 : Int64) (n49 : Int32) (n50 : Int32) (n51 : Int32) (n52 : Int32) (n53 : Int32) (n54 : Int32) (n57 : Int32) (n58 : Int32) (n62 : Int32) (n63 : Int64) (bo : Int32) (lo : Int32) (ge : Int32) (wh : Int32) (hb0 : ¬ bo < 0) (hb1 : ¬ 9 < bo) (hl0 : ¬ lo < 0) (hl1 : ¬ 9 < lo) (h1 : ge < 0) : kM γ l yX12_rests cX12_rests 9 ((some .int)) ({ frames := 1, cells := 0, slots := 0, locals := 22 } : Room) [.ref z, .int bo, .int lo, .int ge, .int wh] [(z, .inr (11, [.int n0, .int n1, .ref z2, .int n3, .int n4, .int n5, .int n6, .long n7, .int n8, .int n9, .ref z10, .ref z11, .ref z12, .ref z13, .ref z14, .ref z15, .ref z16, .ref z17, .ref z18, .ref z19, .int n20, .int n21, .ref z22, .ref z23, .ref z24, .ref z25, .ref z26, .ref z27, .ref z28, .ref z29, .ref z30, .ref z31, .ref z32, .ref z33, .int n34, .long n35, .ref z36, .ref z37, .ref z38, .ref z39, .ref z40, .ref z41, .ref z42, .ref z43, .ref z44, .ref z45, .ref z46, .ref z47, .ref z48, .int n49, .int n50, .int n51, .int n52, .int n53, .int n54, .ref z55, .ref z56, .int n57, .int n58, .ref z59, .ref z60, .ref z61, .int n62, .long n63]))] (fun r w1 => r = some (.int 0) ∧ w1 = [(z, .inr (11, [.int 1, .int n1, .ref z2, .int n3, .int n4, .int n5, .int n6, .long n7, .int n8, .int n9, .ref z10, .ref z11, .ref z12, .ref z13, .ref z14, .ref z15, .ref z16, .ref z17, .ref z18, .ref z19, .int n20, .int n21, .ref z22, .ref z23, .ref z24, .ref z25, .ref z26, .ref z27, .ref z28, .ref z29, .ref z30, .ref z31, .ref z32, .ref z33, .int n34, .long n35, .ref z36, .ref z37, .ref z38, .ref z39, .ref z40, .ref z41, .ref z42, .ref z43, .ref z44, .ref z45, .ref z46, .ref z47, .ref z48, .int n49, .int n50, .int n51, .int n52, .int n53, .int n54, .ref z55, .ref z56, .int n57, .int n58, .ref z59, .ref z60, .ref z61, .int n62, .long n63]))]) := by
  refine k_ofW (by decide) (Nat.le_of_ble_eq_true rfl) ?_
  intro p e s m below meth c A ls hC hr hlocks hname hw hl
  have hx := hC.1
  have hb := hC.2.1
  have hl : lv_has ls 9 [(0, .ref z), (1, .int bo), (2, .int lo), (3, .int ge), (4, .int wh)] := hl
  refine lv_aload_n hx hb dX12_rests_0 rfl (lv_at hl 0 rfl) ?_
  refine lv_iload_n hx hb dX12_rests_1 rfl (lv_at hl 1 rfl) ?_
  refine lv_iconst (v := 0) hx hb dX12_rests_2 (by decide) ?_
  refine lv_bipush (v := 9) hx hb dX12_rests_3 (by decide) ?_
  refine k_S (wr := [(z, .inr (11, [.int n0, .int n1, .ref z2, .int n3, .int n4, .int n5, .int n6, .long n7, .int n8, .int n9, .ref z10, .ref z11, .ref z12, .ref z13, .ref z14, .ref z15, .ref z16, .ref z17, .ref z18, .ref z19, .int n20, .int n21, .ref z22, .ref z23, .ref z24, .ref z25, .ref z26, .ref z27, .ref z28, .ref z29, .ref z30, .ref z31, .ref z32, .ref z33, .int n34, .long n35, .ref z36, .ref z37, .ref z38, .ref z39, .ref z40, .ref z41, .ref z42, .ref z43, .ref z44, .ref z45, .ref z46, .ref z47, .ref z48, .int n49, .int n50, .int n51, .int n52, .int n53, .int n54, .ref z55, .ref z56, .int n57, .int n58, .ref z59, .ref z60, .ref z61, .int n62, .long n63]))]) 3 gw_1472 gw_1473 gw_15 gw_1474 hd_X12_within hC hw (c_within_t γ l bo 0 9 hb0 hb1) ⟨by decide, by decide⟩ ⟨by decide, by decide⟩ hl.1 rfl rfl (Nat.le_of_ble_eq_true rfl) [] [0] rfl rfl rfl rfl (by decide) dX12_rests_5 (fun r w1 H locs hq hw => ?_)
  obtain ⟨rfl, rfl⟩ := hq
  have hw : kW γ A [(z, .inr (11, [.int n0, .int n1, .ref z2, .int n3, .int n4, .int n5, .int n6, .long n7, .int n8, .int n9, .ref z10, .ref z11, .ref z12, .ref z13, .ref z14, .ref z15, .ref z16, .ref z17, .ref z18, .ref z19, .int n20, .int n21, .ref z22, .ref z23, .ref z24, .ref z25, .ref z26, .ref z27, .ref z28, .ref z29, .ref z30, .ref z31, .ref z32, .ref z33, .int n34, .long n35, .ref z36, .ref z37, .ref z38, .ref z39, .ref z40, .ref z41, .ref z42, .ref z43, .ref z44, .ref z45, .ref z46, .ref z47, .ref z48, .int n49, .int n50, .int n51, .int n52, .int n53, .int n54, .ref z55, .ref z56, .int n57, .int n58, .ref z59, .ref z60, .ref z61, .int n62, .long n63]))] s H locs := hw
  refine W.eq (g2 := F0 m 8 ls [.int 1, .ref z]) rfl ?_
  refine lv_if_eq (tgt := 41) hx hb dX12_rests_8 (by decide) (fun h => absurd h (by decide)) (fun _ => ?_)
  refine lv_iload_n hx hb dX12_rests_11 rfl (lv_at hl 2 rfl) ?_
  refine lv_iconst (v := 0) hx hb dX12_rests_12 (by decide) ?_
  refine lv_bipush (v := 9) hx hb dX12_rests_13 (by decide) ?_
  refine k_S (wr := [(z, .inr (11, [.int n0, .int n1, .ref z2, .int n3, .int n4, .int n5, .int n6, .long n7, .int n8, .int n9, .ref z10, .ref z11, .ref z12, .ref z13, .ref z14, .ref z15, .ref z16, .ref z17, .ref z18, .ref z19, .int n20, .int n21, .ref z22, .ref z23, .ref z24, .ref z25, .ref z26, .ref z27, .ref z28, .ref z29, .ref z30, .ref z31, .ref z32, .ref z33, .int n34, .long n35, .ref z36, .ref z37, .ref z38, .ref z39, .ref z40, .ref z41, .ref z42, .ref z43, .ref z44, .ref z45, .ref z46, .ref z47, .ref z48, .int n49, .int n50, .int n51, .int n52, .int n53, .int n54, .ref z55, .ref z56, .int n57, .int n58, .ref z59, .ref z60, .ref z61, .int n62, .long n63]))]) 3 gw_1472 gw_1473 gw_15 gw_1474 hd_X12_within hC hw (c_within_t γ l lo 0 9 hl0 hl1) ⟨by decide, by decide⟩ ⟨by decide, by decide⟩ hl.1 rfl rfl (Nat.le_of_ble_eq_true rfl) [] [0] rfl rfl rfl rfl (by decide) dX12_rests_15 (fun r w1 H locs hq hw => ?_)
  obtain ⟨rfl, rfl⟩ := hq
  have hw : kW γ A [(z, .inr (11, [.int n0, .int n1, .ref z2, .int n3, .int n4, .int n5, .int n6, .long n7, .int n8, .int n9, .ref z10, .ref z11, .ref z12, .ref z13, .ref z14, .ref z15, .ref z16, .ref z17, .ref z18, .ref z19, .int n20, .int n21, .ref z22, .ref z23, .ref z24, .ref z25, .ref z26, .ref z27, .ref z28, .ref z29, .ref z30, .ref z31, .ref z32, .ref z33, .int n34, .long n35, .ref z36, .ref z37, .ref z38, .ref z39, .ref z40, .ref z41, .ref z42, .ref z43, .ref z44, .ref z45, .ref z46, .ref z47, .ref z48, .int n49, .int n50, .int n51, .int n52, .int n53, .int n54, .ref z55, .ref z56, .int n57, .int n58, .ref z59, .ref z60, .ref z61, .int n62, .long n63]))] s H locs := hw
  refine W.eq (g2 := F0 m 18 ls [.int 1, .ref z]) rfl ?_
  refine lv_if_eq (tgt := 41) hx hb dX12_rests_18 (by decide) (fun h => absurd h (by decide)) (fun _ => ?_)
  refine lv_iload_n hx hb dX12_rests_21 rfl (lv_at hl 3 rfl) ?_
  refine lv_iconst (v := 0) hx hb dX12_rests_22 (by decide) ?_
  refine lv_bipush (v := 9) hx hb dX12_rests_23 (by decide) ?_
  refine k_S (wr := [(z, .inr (11, [.int n0, .int n1, .ref z2, .int n3, .int n4, .int n5, .int n6, .long n7, .int n8, .int n9, .ref z10, .ref z11, .ref z12, .ref z13, .ref z14, .ref z15, .ref z16, .ref z17, .ref z18, .ref z19, .int n20, .int n21, .ref z22, .ref z23, .ref z24, .ref z25, .ref z26, .ref z27, .ref z28, .ref z29, .ref z30, .ref z31, .ref z32, .ref z33, .int n34, .long n35, .ref z36, .ref z37, .ref z38, .ref z39, .ref z40, .ref z41, .ref z42, .ref z43, .ref z44, .ref z45, .ref z46, .ref z47, .ref z48, .int n49, .int n50, .int n51, .int n52, .int n53, .int n54, .ref z55, .ref z56, .int n57, .int n58, .ref z59, .ref z60, .ref z61, .int n62, .long n63]))]) 3 gw_1472 gw_1473 gw_15 gw_1474 hd_X12_within hC hw (c_within_l γ l ge 0 9 h1) ⟨by decide, by decide⟩ ⟨by decide, by decide⟩ hl.1 rfl rfl (Nat.le_of_ble_eq_true rfl) [] [0] rfl rfl rfl rfl (by decide) dX12_rests_25 (fun r w1 H locs hq hw => ?_)
  obtain ⟨rfl, rfl⟩ := hq
  have hw : kW γ A [(z, .inr (11, [.int n0, .int n1, .ref z2, .int n3, .int n4, .int n5, .int n6, .long n7, .int n8, .int n9, .ref z10, .ref z11, .ref z12, .ref z13, .ref z14, .ref z15, .ref z16, .ref z17, .ref z18, .ref z19, .int n20, .int n21, .ref z22, .ref z23, .ref z24, .ref z25, .ref z26, .ref z27, .ref z28, .ref z29, .ref z30, .ref z31, .ref z32, .ref z33, .int n34, .long n35, .ref z36, .ref z37, .ref z38, .ref z39, .ref z40, .ref z41, .ref z42, .ref z43, .ref z44, .ref z45, .ref z46, .ref z47, .ref z48, .int n49, .int n50, .int n51, .int n52, .int n53, .int n54, .ref z55, .ref z56, .int n57, .int n58, .ref z59, .ref z60, .ref z61, .int n62, .long n63]))] s H locs := hw
  refine W.eq (g2 := F0 m 28 ls [.int 0, .ref z]) rfl ?_
  refine lv_if_eq (tgt := 41) hx hb dX12_rests_28 (by decide) (fun _ => ?_) (fun h => absurd (by decide) h)
  refine lv_iconst (v := 1) hx hb dX12_rests_41 (by decide) ?_
  refine fs_RX12_143 hC hw 0 rfl rfl rfl (Nat.le_of_ble_eq_true rfl) dX12_rests_42 (fun H locs hw => ?_)
  have hw : kW γ A [(z, .inr (11, [.int 1, .int n1, .ref z2, .int n3, .int n4, .int n5, .int n6, .long n7, .int n8, .int n9, .ref z10, .ref z11, .ref z12, .ref z13, .ref z14, .ref z15, .ref z16, .ref z17, .ref z18, .ref z19, .int n20, .int n21, .ref z22, .ref z23, .ref z24, .ref z25, .ref z26, .ref z27, .ref z28, .ref z29, .ref z30, .ref z31, .ref z32, .ref z33, .int n34, .long n35, .ref z36, .ref z37, .ref z38, .ref z39, .ref z40, .ref z41, .ref z42, .ref z43, .ref z44, .ref z45, .ref z46, .ref z47, .ref z48, .int n49, .int n50, .int n51, .int n52, .int n53, .int n54, .ref z55, .ref z56, .int n57, .int n58, .ref z59, .ref z60, .ref z61, .int n62, .long n63]))] s H locs := hw
  refine lv_aload_n hx hb dX12_rests_45 rfl (lv_at hl 0 rfl) ?_
  refine fg_RX12_143 hC hw 0 rfl rfl dX12_rests_46 ?_
  refine lv_iconst (v := 1) hx hb dX12_rests_49 (by decide) ?_
  refine lv_icmp_ne (tgt := 55) hx hb dX12_rests_50 (by decide) (fun h => absurd rfl h) (fun _ => ?_)
  refine lv_iconst (v := 0) hx hb dX12_rests_53 (by decide) ?_
  exact k_iret hC hr hlocks hw [0] rfl rfl ⟨rfl, rfl⟩ (by decide) (by decide) dX12_rests_54

set_option maxHeartbeats 4000000 in
set_option maxRecDepth 100000 in
theorem c_X12_rests_ge_h (γ : kΓ) (l : Launch) (z : Nat) (z2 : Nat) (z10 : Nat) (z11 : Nat) (z12 : Nat) (z13 : Nat) (z14 : Nat) (z15 : Nat) (z16 : Nat) (z17 : Nat) (z18 : Nat) (z19 : Nat) (z22 : Nat) (z23 : Nat) (z24 : Nat) (z25 : Nat) (z26 : Nat) (z27 : Nat) (z28 : Nat) (z29 : Nat) (z30 : Nat) (z31 : Nat) (z32 : Nat) (z33 : Nat) (z36 : Nat) (z37 : Nat) (z38 : Nat) (z39 : Nat) (z40 : Nat) (z41 : Nat) (z42 : Nat) (z43 : Nat) (z44 : Nat) (z45 : Nat) (z46 : Nat) (z47 : Nat) (z48 : Nat) (z55 : Nat) (z56 : Nat) (z59 : Nat) (z60 : Nat) (z61 : Nat) (n0 : Int32) (n1 : Int32) (n3 : Int32) (n4 : Int32) (n5 : Int32) (n6 : Int32) (n7 : Int64) (n8 : Int32) (n9 : Int32) (n20 : Int32) (n21 : Int32) (n34 : Int32) (n35 : Int64) (n49 : Int32) (n50 : Int32) (n51 : Int32) (n52 : Int32) (n53 : Int32) (n54 : Int32) (n57 : Int32) (n58 : Int32) (n62 : Int32) (n63 : Int64) (bo : Int32) (lo : Int32) (ge : Int32) (wh : Int32) (hb0 : ¬ bo < 0) (hb1 : ¬ 9 < bo) (hl0 : ¬ lo < 0) (hl1 : ¬ 9 < lo) (h1 : ¬ ge < 0) (h2 : 9 < ge) : kM γ l yX12_rests cX12_rests 9 ((some .int)) ({ frames := 1, cells := 0, slots := 0, locals := 22 } : Room) [.ref z, .int bo, .int lo, .int ge, .int wh] [(z, .inr (11, [.int n0, .int n1, .ref z2, .int n3, .int n4, .int n5, .int n6, .long n7, .int n8, .int n9, .ref z10, .ref z11, .ref z12, .ref z13, .ref z14, .ref z15, .ref z16, .ref z17, .ref z18, .ref z19, .int n20, .int n21, .ref z22, .ref z23, .ref z24, .ref z25, .ref z26, .ref z27, .ref z28, .ref z29, .ref z30, .ref z31, .ref z32, .ref z33, .int n34, .long n35, .ref z36, .ref z37, .ref z38, .ref z39, .ref z40, .ref z41, .ref z42, .ref z43, .ref z44, .ref z45, .ref z46, .ref z47, .ref z48, .int n49, .int n50, .int n51, .int n52, .int n53, .int n54, .ref z55, .ref z56, .int n57, .int n58, .ref z59, .ref z60, .ref z61, .int n62, .long n63]))] (fun r w1 => r = some (.int 0) ∧ w1 = [(z, .inr (11, [.int 1, .int n1, .ref z2, .int n3, .int n4, .int n5, .int n6, .long n7, .int n8, .int n9, .ref z10, .ref z11, .ref z12, .ref z13, .ref z14, .ref z15, .ref z16, .ref z17, .ref z18, .ref z19, .int n20, .int n21, .ref z22, .ref z23, .ref z24, .ref z25, .ref z26, .ref z27, .ref z28, .ref z29, .ref z30, .ref z31, .ref z32, .ref z33, .int n34, .long n35, .ref z36, .ref z37, .ref z38, .ref z39, .ref z40, .ref z41, .ref z42, .ref z43, .ref z44, .ref z45, .ref z46, .ref z47, .ref z48, .int n49, .int n50, .int n51, .int n52, .int n53, .int n54, .ref z55, .ref z56, .int n57, .int n58, .ref z59, .ref z60, .ref z61, .int n62, .long n63]))]) := by
  refine k_ofW (by decide) (Nat.le_of_ble_eq_true rfl) ?_
  intro p e s m below meth c A ls hC hr hlocks hname hw hl
  have hx := hC.1
  have hb := hC.2.1
  have hl : lv_has ls 9 [(0, .ref z), (1, .int bo), (2, .int lo), (3, .int ge), (4, .int wh)] := hl
  refine lv_aload_n hx hb dX12_rests_0 rfl (lv_at hl 0 rfl) ?_
  refine lv_iload_n hx hb dX12_rests_1 rfl (lv_at hl 1 rfl) ?_
  refine lv_iconst (v := 0) hx hb dX12_rests_2 (by decide) ?_
  refine lv_bipush (v := 9) hx hb dX12_rests_3 (by decide) ?_
  refine k_S (wr := [(z, .inr (11, [.int n0, .int n1, .ref z2, .int n3, .int n4, .int n5, .int n6, .long n7, .int n8, .int n9, .ref z10, .ref z11, .ref z12, .ref z13, .ref z14, .ref z15, .ref z16, .ref z17, .ref z18, .ref z19, .int n20, .int n21, .ref z22, .ref z23, .ref z24, .ref z25, .ref z26, .ref z27, .ref z28, .ref z29, .ref z30, .ref z31, .ref z32, .ref z33, .int n34, .long n35, .ref z36, .ref z37, .ref z38, .ref z39, .ref z40, .ref z41, .ref z42, .ref z43, .ref z44, .ref z45, .ref z46, .ref z47, .ref z48, .int n49, .int n50, .int n51, .int n52, .int n53, .int n54, .ref z55, .ref z56, .int n57, .int n58, .ref z59, .ref z60, .ref z61, .int n62, .long n63]))]) 3 gw_1472 gw_1473 gw_15 gw_1474 hd_X12_within hC hw (c_within_t γ l bo 0 9 hb0 hb1) ⟨by decide, by decide⟩ ⟨by decide, by decide⟩ hl.1 rfl rfl (Nat.le_of_ble_eq_true rfl) [] [0] rfl rfl rfl rfl (by decide) dX12_rests_5 (fun r w1 H locs hq hw => ?_)
  obtain ⟨rfl, rfl⟩ := hq
  have hw : kW γ A [(z, .inr (11, [.int n0, .int n1, .ref z2, .int n3, .int n4, .int n5, .int n6, .long n7, .int n8, .int n9, .ref z10, .ref z11, .ref z12, .ref z13, .ref z14, .ref z15, .ref z16, .ref z17, .ref z18, .ref z19, .int n20, .int n21, .ref z22, .ref z23, .ref z24, .ref z25, .ref z26, .ref z27, .ref z28, .ref z29, .ref z30, .ref z31, .ref z32, .ref z33, .int n34, .long n35, .ref z36, .ref z37, .ref z38, .ref z39, .ref z40, .ref z41, .ref z42, .ref z43, .ref z44, .ref z45, .ref z46, .ref z47, .ref z48, .int n49, .int n50, .int n51, .int n52, .int n53, .int n54, .ref z55, .ref z56, .int n57, .int n58, .ref z59, .ref z60, .ref z61, .int n62, .long n63]))] s H locs := hw
  refine W.eq (g2 := F0 m 8 ls [.int 1, .ref z]) rfl ?_
  refine lv_if_eq (tgt := 41) hx hb dX12_rests_8 (by decide) (fun h => absurd h (by decide)) (fun _ => ?_)
  refine lv_iload_n hx hb dX12_rests_11 rfl (lv_at hl 2 rfl) ?_
  refine lv_iconst (v := 0) hx hb dX12_rests_12 (by decide) ?_
  refine lv_bipush (v := 9) hx hb dX12_rests_13 (by decide) ?_
  refine k_S (wr := [(z, .inr (11, [.int n0, .int n1, .ref z2, .int n3, .int n4, .int n5, .int n6, .long n7, .int n8, .int n9, .ref z10, .ref z11, .ref z12, .ref z13, .ref z14, .ref z15, .ref z16, .ref z17, .ref z18, .ref z19, .int n20, .int n21, .ref z22, .ref z23, .ref z24, .ref z25, .ref z26, .ref z27, .ref z28, .ref z29, .ref z30, .ref z31, .ref z32, .ref z33, .int n34, .long n35, .ref z36, .ref z37, .ref z38, .ref z39, .ref z40, .ref z41, .ref z42, .ref z43, .ref z44, .ref z45, .ref z46, .ref z47, .ref z48, .int n49, .int n50, .int n51, .int n52, .int n53, .int n54, .ref z55, .ref z56, .int n57, .int n58, .ref z59, .ref z60, .ref z61, .int n62, .long n63]))]) 3 gw_1472 gw_1473 gw_15 gw_1474 hd_X12_within hC hw (c_within_t γ l lo 0 9 hl0 hl1) ⟨by decide, by decide⟩ ⟨by decide, by decide⟩ hl.1 rfl rfl (Nat.le_of_ble_eq_true rfl) [] [0] rfl rfl rfl rfl (by decide) dX12_rests_15 (fun r w1 H locs hq hw => ?_)
  obtain ⟨rfl, rfl⟩ := hq
  have hw : kW γ A [(z, .inr (11, [.int n0, .int n1, .ref z2, .int n3, .int n4, .int n5, .int n6, .long n7, .int n8, .int n9, .ref z10, .ref z11, .ref z12, .ref z13, .ref z14, .ref z15, .ref z16, .ref z17, .ref z18, .ref z19, .int n20, .int n21, .ref z22, .ref z23, .ref z24, .ref z25, .ref z26, .ref z27, .ref z28, .ref z29, .ref z30, .ref z31, .ref z32, .ref z33, .int n34, .long n35, .ref z36, .ref z37, .ref z38, .ref z39, .ref z40, .ref z41, .ref z42, .ref z43, .ref z44, .ref z45, .ref z46, .ref z47, .ref z48, .int n49, .int n50, .int n51, .int n52, .int n53, .int n54, .ref z55, .ref z56, .int n57, .int n58, .ref z59, .ref z60, .ref z61, .int n62, .long n63]))] s H locs := hw
  refine W.eq (g2 := F0 m 18 ls [.int 1, .ref z]) rfl ?_
  refine lv_if_eq (tgt := 41) hx hb dX12_rests_18 (by decide) (fun h => absurd h (by decide)) (fun _ => ?_)
  refine lv_iload_n hx hb dX12_rests_21 rfl (lv_at hl 3 rfl) ?_
  refine lv_iconst (v := 0) hx hb dX12_rests_22 (by decide) ?_
  refine lv_bipush (v := 9) hx hb dX12_rests_23 (by decide) ?_
  refine k_S (wr := [(z, .inr (11, [.int n0, .int n1, .ref z2, .int n3, .int n4, .int n5, .int n6, .long n7, .int n8, .int n9, .ref z10, .ref z11, .ref z12, .ref z13, .ref z14, .ref z15, .ref z16, .ref z17, .ref z18, .ref z19, .int n20, .int n21, .ref z22, .ref z23, .ref z24, .ref z25, .ref z26, .ref z27, .ref z28, .ref z29, .ref z30, .ref z31, .ref z32, .ref z33, .int n34, .long n35, .ref z36, .ref z37, .ref z38, .ref z39, .ref z40, .ref z41, .ref z42, .ref z43, .ref z44, .ref z45, .ref z46, .ref z47, .ref z48, .int n49, .int n50, .int n51, .int n52, .int n53, .int n54, .ref z55, .ref z56, .int n57, .int n58, .ref z59, .ref z60, .ref z61, .int n62, .long n63]))]) 3 gw_1472 gw_1473 gw_15 gw_1474 hd_X12_within hC hw (c_within_h γ l ge 0 9 h1 h2) ⟨by decide, by decide⟩ ⟨by decide, by decide⟩ hl.1 rfl rfl (Nat.le_of_ble_eq_true rfl) [] [0] rfl rfl rfl rfl (by decide) dX12_rests_25 (fun r w1 H locs hq hw => ?_)
  obtain ⟨rfl, rfl⟩ := hq
  have hw : kW γ A [(z, .inr (11, [.int n0, .int n1, .ref z2, .int n3, .int n4, .int n5, .int n6, .long n7, .int n8, .int n9, .ref z10, .ref z11, .ref z12, .ref z13, .ref z14, .ref z15, .ref z16, .ref z17, .ref z18, .ref z19, .int n20, .int n21, .ref z22, .ref z23, .ref z24, .ref z25, .ref z26, .ref z27, .ref z28, .ref z29, .ref z30, .ref z31, .ref z32, .ref z33, .int n34, .long n35, .ref z36, .ref z37, .ref z38, .ref z39, .ref z40, .ref z41, .ref z42, .ref z43, .ref z44, .ref z45, .ref z46, .ref z47, .ref z48, .int n49, .int n50, .int n51, .int n52, .int n53, .int n54, .ref z55, .ref z56, .int n57, .int n58, .ref z59, .ref z60, .ref z61, .int n62, .long n63]))] s H locs := hw
  refine W.eq (g2 := F0 m 28 ls [.int 0, .ref z]) rfl ?_
  refine lv_if_eq (tgt := 41) hx hb dX12_rests_28 (by decide) (fun _ => ?_) (fun h => absurd (by decide) h)
  refine lv_iconst (v := 1) hx hb dX12_rests_41 (by decide) ?_
  refine fs_RX12_143 hC hw 0 rfl rfl rfl (Nat.le_of_ble_eq_true rfl) dX12_rests_42 (fun H locs hw => ?_)
  have hw : kW γ A [(z, .inr (11, [.int 1, .int n1, .ref z2, .int n3, .int n4, .int n5, .int n6, .long n7, .int n8, .int n9, .ref z10, .ref z11, .ref z12, .ref z13, .ref z14, .ref z15, .ref z16, .ref z17, .ref z18, .ref z19, .int n20, .int n21, .ref z22, .ref z23, .ref z24, .ref z25, .ref z26, .ref z27, .ref z28, .ref z29, .ref z30, .ref z31, .ref z32, .ref z33, .int n34, .long n35, .ref z36, .ref z37, .ref z38, .ref z39, .ref z40, .ref z41, .ref z42, .ref z43, .ref z44, .ref z45, .ref z46, .ref z47, .ref z48, .int n49, .int n50, .int n51, .int n52, .int n53, .int n54, .ref z55, .ref z56, .int n57, .int n58, .ref z59, .ref z60, .ref z61, .int n62, .long n63]))] s H locs := hw
  refine lv_aload_n hx hb dX12_rests_45 rfl (lv_at hl 0 rfl) ?_
  refine fg_RX12_143 hC hw 0 rfl rfl dX12_rests_46 ?_
  refine lv_iconst (v := 1) hx hb dX12_rests_49 (by decide) ?_
  refine lv_icmp_ne (tgt := 55) hx hb dX12_rests_50 (by decide) (fun h => absurd rfl h) (fun _ => ?_)
  refine lv_iconst (v := 0) hx hb dX12_rests_53 (by decide) ?_
  exact k_iret hC hr hlocks hw [0] rfl rfl ⟨rfl, rfl⟩ (by decide) (by decide) dX12_rests_54

set_option maxHeartbeats 4000000 in
set_option maxRecDepth 100000 in
theorem c_X12_rests_wh (γ : kΓ) (l : Launch) (z : Nat) (z2 : Nat) (z10 : Nat) (z11 : Nat) (z12 : Nat) (z13 : Nat) (z14 : Nat) (z15 : Nat) (z16 : Nat) (z17 : Nat) (z18 : Nat) (z19 : Nat) (z22 : Nat) (z23 : Nat) (z24 : Nat) (z25 : Nat) (z26 : Nat) (z27 : Nat) (z28 : Nat) (z29 : Nat) (z30 : Nat) (z31 : Nat) (z32 : Nat) (z33 : Nat) (z36 : Nat) (z37 : Nat) (z38 : Nat) (z39 : Nat) (z40 : Nat) (z41 : Nat) (z42 : Nat) (z43 : Nat) (z44 : Nat) (z45 : Nat) (z46 : Nat) (z47 : Nat) (z48 : Nat) (z55 : Nat) (z56 : Nat) (z59 : Nat) (z60 : Nat) (z61 : Nat) (n0 : Int32) (n1 : Int32) (n3 : Int32) (n4 : Int32) (n5 : Int32) (n6 : Int32) (n7 : Int64) (n8 : Int32) (n9 : Int32) (n20 : Int32) (n21 : Int32) (n34 : Int32) (n35 : Int64) (n49 : Int32) (n50 : Int32) (n51 : Int32) (n52 : Int32) (n53 : Int32) (n54 : Int32) (n57 : Int32) (n58 : Int32) (n62 : Int32) (n63 : Int64) (bo : Int32) (lo : Int32) (ge : Int32) (wh : Int32) (hb0 : ¬ bo < 0) (hb1 : ¬ 9 < bo) (hl0 : ¬ lo < 0) (hl1 : ¬ 9 < lo) (hg0 : ¬ ge < 0) (hg1 : ¬ 9 < ge) (h1 : wh < -1) : kM γ l yX12_rests cX12_rests 9 ((some .int)) ({ frames := 1, cells := 0, slots := 0, locals := 22 } : Room) [.ref z, .int bo, .int lo, .int ge, .int wh] [(z, .inr (11, [.int n0, .int n1, .ref z2, .int n3, .int n4, .int n5, .int n6, .long n7, .int n8, .int n9, .ref z10, .ref z11, .ref z12, .ref z13, .ref z14, .ref z15, .ref z16, .ref z17, .ref z18, .ref z19, .int n20, .int n21, .ref z22, .ref z23, .ref z24, .ref z25, .ref z26, .ref z27, .ref z28, .ref z29, .ref z30, .ref z31, .ref z32, .ref z33, .int n34, .long n35, .ref z36, .ref z37, .ref z38, .ref z39, .ref z40, .ref z41, .ref z42, .ref z43, .ref z44, .ref z45, .ref z46, .ref z47, .ref z48, .int n49, .int n50, .int n51, .int n52, .int n53, .int n54, .ref z55, .ref z56, .int n57, .int n58, .ref z59, .ref z60, .ref z61, .int n62, .long n63]))] (fun r w1 => r = some (.int 0) ∧ w1 = [(z, .inr (11, [.int 1, .int n1, .ref z2, .int n3, .int n4, .int n5, .int n6, .long n7, .int n8, .int n9, .ref z10, .ref z11, .ref z12, .ref z13, .ref z14, .ref z15, .ref z16, .ref z17, .ref z18, .ref z19, .int n20, .int n21, .ref z22, .ref z23, .ref z24, .ref z25, .ref z26, .ref z27, .ref z28, .ref z29, .ref z30, .ref z31, .ref z32, .ref z33, .int n34, .long n35, .ref z36, .ref z37, .ref z38, .ref z39, .ref z40, .ref z41, .ref z42, .ref z43, .ref z44, .ref z45, .ref z46, .ref z47, .ref z48, .int n49, .int n50, .int n51, .int n52, .int n53, .int n54, .ref z55, .ref z56, .int n57, .int n58, .ref z59, .ref z60, .ref z61, .int n62, .long n63]))]) := by
  refine k_ofW (by decide) (Nat.le_of_ble_eq_true rfl) ?_
  intro p e s m below meth c A ls hC hr hlocks hname hw hl
  have hx := hC.1
  have hb := hC.2.1
  have hl : lv_has ls 9 [(0, .ref z), (1, .int bo), (2, .int lo), (3, .int ge), (4, .int wh)] := hl
  refine lv_aload_n hx hb dX12_rests_0 rfl (lv_at hl 0 rfl) ?_
  refine lv_iload_n hx hb dX12_rests_1 rfl (lv_at hl 1 rfl) ?_
  refine lv_iconst (v := 0) hx hb dX12_rests_2 (by decide) ?_
  refine lv_bipush (v := 9) hx hb dX12_rests_3 (by decide) ?_
  refine k_S (wr := [(z, .inr (11, [.int n0, .int n1, .ref z2, .int n3, .int n4, .int n5, .int n6, .long n7, .int n8, .int n9, .ref z10, .ref z11, .ref z12, .ref z13, .ref z14, .ref z15, .ref z16, .ref z17, .ref z18, .ref z19, .int n20, .int n21, .ref z22, .ref z23, .ref z24, .ref z25, .ref z26, .ref z27, .ref z28, .ref z29, .ref z30, .ref z31, .ref z32, .ref z33, .int n34, .long n35, .ref z36, .ref z37, .ref z38, .ref z39, .ref z40, .ref z41, .ref z42, .ref z43, .ref z44, .ref z45, .ref z46, .ref z47, .ref z48, .int n49, .int n50, .int n51, .int n52, .int n53, .int n54, .ref z55, .ref z56, .int n57, .int n58, .ref z59, .ref z60, .ref z61, .int n62, .long n63]))]) 3 gw_1472 gw_1473 gw_15 gw_1474 hd_X12_within hC hw (c_within_t γ l bo 0 9 hb0 hb1) ⟨by decide, by decide⟩ ⟨by decide, by decide⟩ hl.1 rfl rfl (Nat.le_of_ble_eq_true rfl) [] [0] rfl rfl rfl rfl (by decide) dX12_rests_5 (fun r w1 H locs hq hw => ?_)
  obtain ⟨rfl, rfl⟩ := hq
  have hw : kW γ A [(z, .inr (11, [.int n0, .int n1, .ref z2, .int n3, .int n4, .int n5, .int n6, .long n7, .int n8, .int n9, .ref z10, .ref z11, .ref z12, .ref z13, .ref z14, .ref z15, .ref z16, .ref z17, .ref z18, .ref z19, .int n20, .int n21, .ref z22, .ref z23, .ref z24, .ref z25, .ref z26, .ref z27, .ref z28, .ref z29, .ref z30, .ref z31, .ref z32, .ref z33, .int n34, .long n35, .ref z36, .ref z37, .ref z38, .ref z39, .ref z40, .ref z41, .ref z42, .ref z43, .ref z44, .ref z45, .ref z46, .ref z47, .ref z48, .int n49, .int n50, .int n51, .int n52, .int n53, .int n54, .ref z55, .ref z56, .int n57, .int n58, .ref z59, .ref z60, .ref z61, .int n62, .long n63]))] s H locs := hw
  refine W.eq (g2 := F0 m 8 ls [.int 1, .ref z]) rfl ?_
  refine lv_if_eq (tgt := 41) hx hb dX12_rests_8 (by decide) (fun h => absurd h (by decide)) (fun _ => ?_)
  refine lv_iload_n hx hb dX12_rests_11 rfl (lv_at hl 2 rfl) ?_
  refine lv_iconst (v := 0) hx hb dX12_rests_12 (by decide) ?_
  refine lv_bipush (v := 9) hx hb dX12_rests_13 (by decide) ?_
  refine k_S (wr := [(z, .inr (11, [.int n0, .int n1, .ref z2, .int n3, .int n4, .int n5, .int n6, .long n7, .int n8, .int n9, .ref z10, .ref z11, .ref z12, .ref z13, .ref z14, .ref z15, .ref z16, .ref z17, .ref z18, .ref z19, .int n20, .int n21, .ref z22, .ref z23, .ref z24, .ref z25, .ref z26, .ref z27, .ref z28, .ref z29, .ref z30, .ref z31, .ref z32, .ref z33, .int n34, .long n35, .ref z36, .ref z37, .ref z38, .ref z39, .ref z40, .ref z41, .ref z42, .ref z43, .ref z44, .ref z45, .ref z46, .ref z47, .ref z48, .int n49, .int n50, .int n51, .int n52, .int n53, .int n54, .ref z55, .ref z56, .int n57, .int n58, .ref z59, .ref z60, .ref z61, .int n62, .long n63]))]) 3 gw_1472 gw_1473 gw_15 gw_1474 hd_X12_within hC hw (c_within_t γ l lo 0 9 hl0 hl1) ⟨by decide, by decide⟩ ⟨by decide, by decide⟩ hl.1 rfl rfl (Nat.le_of_ble_eq_true rfl) [] [0] rfl rfl rfl rfl (by decide) dX12_rests_15 (fun r w1 H locs hq hw => ?_)
  obtain ⟨rfl, rfl⟩ := hq
  have hw : kW γ A [(z, .inr (11, [.int n0, .int n1, .ref z2, .int n3, .int n4, .int n5, .int n6, .long n7, .int n8, .int n9, .ref z10, .ref z11, .ref z12, .ref z13, .ref z14, .ref z15, .ref z16, .ref z17, .ref z18, .ref z19, .int n20, .int n21, .ref z22, .ref z23, .ref z24, .ref z25, .ref z26, .ref z27, .ref z28, .ref z29, .ref z30, .ref z31, .ref z32, .ref z33, .int n34, .long n35, .ref z36, .ref z37, .ref z38, .ref z39, .ref z40, .ref z41, .ref z42, .ref z43, .ref z44, .ref z45, .ref z46, .ref z47, .ref z48, .int n49, .int n50, .int n51, .int n52, .int n53, .int n54, .ref z55, .ref z56, .int n57, .int n58, .ref z59, .ref z60, .ref z61, .int n62, .long n63]))] s H locs := hw
  refine W.eq (g2 := F0 m 18 ls [.int 1, .ref z]) rfl ?_
  refine lv_if_eq (tgt := 41) hx hb dX12_rests_18 (by decide) (fun h => absurd h (by decide)) (fun _ => ?_)
  refine lv_iload_n hx hb dX12_rests_21 rfl (lv_at hl 3 rfl) ?_
  refine lv_iconst (v := 0) hx hb dX12_rests_22 (by decide) ?_
  refine lv_bipush (v := 9) hx hb dX12_rests_23 (by decide) ?_
  refine k_S (wr := [(z, .inr (11, [.int n0, .int n1, .ref z2, .int n3, .int n4, .int n5, .int n6, .long n7, .int n8, .int n9, .ref z10, .ref z11, .ref z12, .ref z13, .ref z14, .ref z15, .ref z16, .ref z17, .ref z18, .ref z19, .int n20, .int n21, .ref z22, .ref z23, .ref z24, .ref z25, .ref z26, .ref z27, .ref z28, .ref z29, .ref z30, .ref z31, .ref z32, .ref z33, .int n34, .long n35, .ref z36, .ref z37, .ref z38, .ref z39, .ref z40, .ref z41, .ref z42, .ref z43, .ref z44, .ref z45, .ref z46, .ref z47, .ref z48, .int n49, .int n50, .int n51, .int n52, .int n53, .int n54, .ref z55, .ref z56, .int n57, .int n58, .ref z59, .ref z60, .ref z61, .int n62, .long n63]))]) 3 gw_1472 gw_1473 gw_15 gw_1474 hd_X12_within hC hw (c_within_t γ l ge 0 9 hg0 hg1) ⟨by decide, by decide⟩ ⟨by decide, by decide⟩ hl.1 rfl rfl (Nat.le_of_ble_eq_true rfl) [] [0] rfl rfl rfl rfl (by decide) dX12_rests_25 (fun r w1 H locs hq hw => ?_)
  obtain ⟨rfl, rfl⟩ := hq
  have hw : kW γ A [(z, .inr (11, [.int n0, .int n1, .ref z2, .int n3, .int n4, .int n5, .int n6, .long n7, .int n8, .int n9, .ref z10, .ref z11, .ref z12, .ref z13, .ref z14, .ref z15, .ref z16, .ref z17, .ref z18, .ref z19, .int n20, .int n21, .ref z22, .ref z23, .ref z24, .ref z25, .ref z26, .ref z27, .ref z28, .ref z29, .ref z30, .ref z31, .ref z32, .ref z33, .int n34, .long n35, .ref z36, .ref z37, .ref z38, .ref z39, .ref z40, .ref z41, .ref z42, .ref z43, .ref z44, .ref z45, .ref z46, .ref z47, .ref z48, .int n49, .int n50, .int n51, .int n52, .int n53, .int n54, .ref z55, .ref z56, .int n57, .int n58, .ref z59, .ref z60, .ref z61, .int n62, .long n63]))] s H locs := hw
  refine W.eq (g2 := F0 m 28 ls [.int 1, .ref z]) rfl ?_
  refine lv_if_eq (tgt := 41) hx hb dX12_rests_28 (by decide) (fun h => absurd h (by decide)) (fun _ => ?_)
  refine lv_iload hx hb dX12_rests_31 (lv_at hl 4 rfl) ?_
  refine lv_iconst (v := (-1)) hx hb dX12_rests_33 (by decide) ?_
  refine lv_icmp_lt (tgt := 41) hx hb dX12_rests_34 (by decide) (fun _ => ?_) (fun h => absurd h1 h)
  refine lv_iconst (v := 1) hx hb dX12_rests_41 (by decide) ?_
  refine fs_RX12_143 hC hw 0 rfl rfl rfl (Nat.le_of_ble_eq_true rfl) dX12_rests_42 (fun H locs hw => ?_)
  have hw : kW γ A [(z, .inr (11, [.int 1, .int n1, .ref z2, .int n3, .int n4, .int n5, .int n6, .long n7, .int n8, .int n9, .ref z10, .ref z11, .ref z12, .ref z13, .ref z14, .ref z15, .ref z16, .ref z17, .ref z18, .ref z19, .int n20, .int n21, .ref z22, .ref z23, .ref z24, .ref z25, .ref z26, .ref z27, .ref z28, .ref z29, .ref z30, .ref z31, .ref z32, .ref z33, .int n34, .long n35, .ref z36, .ref z37, .ref z38, .ref z39, .ref z40, .ref z41, .ref z42, .ref z43, .ref z44, .ref z45, .ref z46, .ref z47, .ref z48, .int n49, .int n50, .int n51, .int n52, .int n53, .int n54, .ref z55, .ref z56, .int n57, .int n58, .ref z59, .ref z60, .ref z61, .int n62, .long n63]))] s H locs := hw
  refine lv_aload_n hx hb dX12_rests_45 rfl (lv_at hl 0 rfl) ?_
  refine fg_RX12_143 hC hw 0 rfl rfl dX12_rests_46 ?_
  refine lv_iconst (v := 1) hx hb dX12_rests_49 (by decide) ?_
  refine lv_icmp_ne (tgt := 55) hx hb dX12_rests_50 (by decide) (fun h => absurd rfl h) (fun _ => ?_)
  refine lv_iconst (v := 0) hx hb dX12_rests_53 (by decide) ?_
  exact k_iret hC hr hlocks hw [0] rfl rfl ⟨rfl, rfl⟩ (by decide) (by decide) dX12_rests_54


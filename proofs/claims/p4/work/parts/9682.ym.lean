theorem dX12_readsLine_0 : decode cX12_readsLine 0 = .ok (.aload_n 0, 1) := by decide +kernel
theorem dX12_readsLine_1 : decode cX12_readsLine 1 = .ok (.ldc2_w 248, 3) := by decide +kernel
theorem dX12_readsLine_4 : decode cX12_readsLine 4 = .ok (.invokevirtual 198, 3) := by decide +kernel
theorem dX12_readsLine_7 : decode cX12_readsLine 7 = .ok (.ifCond .eq 7, 3) := by decide +kernel
theorem dX12_readsLine_10 : decode cX12_readsLine 10 = .ok (.iconst 0, 1) := by decide +kernel
theorem dX12_readsLine_11 : decode cX12_readsLine 11 = .ok (.goto 32, 3) := by decide +kernel
theorem dX12_readsLine_14 : decode cX12_readsLine 14 = .ok (.aload_n 0, 1) := by decide +kernel
theorem dX12_readsLine_15 : decode cX12_readsLine 15 = .ok (.ldc2_w 250, 3) := by decide +kernel
theorem dX12_readsLine_18 : decode cX12_readsLine 18 = .ok (.invokevirtual 198, 3) := by decide +kernel
theorem dX12_readsLine_21 : decode cX12_readsLine 21 = .ok (.ifCond .eq 7, 3) := by decide +kernel
theorem dX12_readsLine_24 : decode cX12_readsLine 24 = .ok (.iconst 1, 1) := by decide +kernel
theorem dX12_readsLine_25 : decode cX12_readsLine 25 = .ok (.goto 18, 3) := by decide +kernel
theorem dX12_readsLine_28 : decode cX12_readsLine 28 = .ok (.aload_n 0, 1) := by decide +kernel
theorem dX12_readsLine_29 : decode cX12_readsLine 29 = .ok (.ldc2_w 252, 3) := by decide +kernel
theorem dX12_readsLine_32 : decode cX12_readsLine 32 = .ok (.invokevirtual 198, 3) := by decide +kernel
theorem dX12_readsLine_35 : decode cX12_readsLine 35 = .ok (.ifCond .eq 7, 3) := by decide +kernel
theorem dX12_readsLine_38 : decode cX12_readsLine 38 = .ok (.iconst 2, 1) := by decide +kernel
theorem dX12_readsLine_39 : decode cX12_readsLine 39 = .ok (.goto 4, 3) := by decide +kernel
theorem dX12_readsLine_42 : decode cX12_readsLine 42 = .ok (.iconst (-1), 1) := by decide +kernel
theorem dX12_readsLine_43 : decode cX12_readsLine 43 = .ok (.istore_n 1, 1) := by decide +kernel
theorem dX12_readsLine_44 : decode cX12_readsLine 44 = .ok (.iload_n 1, 1) := by decide +kernel
theorem dX12_readsLine_45 : decode cX12_readsLine 45 = .ok (.ifCond .ge 9, 3) := by decide +kernel
theorem dX12_readsLine_48 : decode cX12_readsLine 48 = .ok (.aload_n 0, 1) := by decide +kernel
theorem dX12_readsLine_49 : decode cX12_readsLine 49 = .ok (.iconst 1, 1) := by decide +kernel
theorem dX12_readsLine_50 : decode cX12_readsLine 50 = .ok (.invokevirtual 206, 3) := by decide +kernel
theorem dX12_readsLine_53 : decode cX12_readsLine 53 = .ok (.ireturn, 1) := by decide +kernel
theorem dX12_readsLine_54 : decode cX12_readsLine 54 = .ok (.aload_n 0, 1) := by decide +kernel
theorem dX12_readsLine_55 : decode cX12_readsLine 55 = .ok (.getfield 81, 3) := by decide +kernel
theorem dX12_readsLine_58 : decode cX12_readsLine 58 = .ok (.iconst 5, 1) := by decide +kernel
theorem dX12_readsLine_59 : decode cX12_readsLine 59 = .ok (.iaload, 1) := by decide +kernel
theorem dX12_readsLine_60 : decode cX12_readsLine 60 = .ok (.bipush 40, 2) := by decide +kernel
theorem dX12_readsLine_62 : decode cX12_readsLine 62 = .ok (.if_icmp .ne 9, 3) := by decide +kernel
theorem dX12_readsLine_65 : decode cX12_readsLine 65 = .ok (.aload_n 0, 1) := by decide +kernel
theorem dX12_readsLine_66 : decode cX12_readsLine 66 = .ok (.iconst 5, 1) := by decide +kernel
theorem dX12_readsLine_67 : decode cX12_readsLine 67 = .ok (.invokevirtual 206, 3) := by decide +kernel
theorem dX12_readsLine_70 : decode cX12_readsLine 70 = .ok (.ireturn, 1) := by decide +kernel
theorem dX12_readsLine_71 : decode cX12_readsLine 71 = .ok (.aload_n 0, 1) := by decide +kernel
theorem dX12_readsLine_72 : decode cX12_readsLine 72 = .ok (.invokevirtual 212, 3) := by decide +kernel
theorem dX12_readsLine_75 : decode cX12_readsLine 75 = .ok (.sipush 200, 3) := by decide +kernel
theorem dX12_readsLine_78 : decode cX12_readsLine 78 = .ok (.aload_n 0, 1) := by decide +kernel
theorem dX12_readsLine_79 : decode cX12_readsLine 79 = .ok (.getfield 81, 3) := by decide +kernel
theorem dX12_readsLine_82 : decode cX12_readsLine 82 = .ok (.iconst 5, 1) := by decide +kernel
theorem dX12_readsLine_83 : decode cX12_readsLine 83 = .ok (.iaload, 1) := by decide +kernel
theorem dX12_readsLine_84 : decode cX12_readsLine 84 = .ok (.iadd, 1) := by decide +kernel
theorem dX12_readsLine_85 : decode cX12_readsLine 85 = .ok (.istore_n 2, 1) := by decide +kernel
theorem dX12_readsLine_86 : decode cX12_readsLine 86 = .ok (.aload_n 0, 1) := by decide +kernel
theorem dX12_readsLine_87 : decode cX12_readsLine 87 = .ok (.getfield 84, 3) := by decide +kernel
theorem dX12_readsLine_90 : decode cX12_readsLine 90 = .ok (.iload_n 2, 1) := by decide +kernel
theorem dX12_readsLine_91 : decode cX12_readsLine 91 = .ok (.iload_n 1, 1) := by decide +kernel
theorem dX12_readsLine_92 : decode cX12_readsLine 92 = .ok (.iastore, 1) := by decide +kernel
theorem dX12_readsLine_93 : decode cX12_readsLine 93 = .ok (.aload_n 0, 1) := by decide +kernel
theorem dX12_readsLine_94 : decode cX12_readsLine 94 = .ok (.invokevirtual 273, 3) := by decide +kernel
theorem dX12_readsLine_97 : decode cX12_readsLine 97 = .ok (.ifCond .eq 9, 3) := by decide +kernel
theorem dX12_readsLine_100 : decode cX12_readsLine 100 = .ok (.aload_n 0, 1) := by decide +kernel
theorem dX12_readsLine_101 : decode cX12_readsLine 101 = .ok (.iconst 1, 1) := by decide +kernel
theorem dX12_readsLine_102 : decode cX12_readsLine 102 = .ok (.invokevirtual 206, 3) := by decide +kernel
theorem dX12_readsLine_105 : decode cX12_readsLine 105 = .ok (.ireturn, 1) := by decide +kernel
theorem dX12_readsLine_106 : decode cX12_readsLine 106 = .ok (.aload_n 0, 1) := by decide +kernel
theorem dX12_readsLine_107 : decode cX12_readsLine 107 = .ok (.getfield 87, 3) := by decide +kernel
theorem dX12_readsLine_110 : decode cX12_readsLine 110 = .ok (.iload_n 2, 1) := by decide +kernel
theorem dX12_readsLine_111 : decode cX12_readsLine 111 = .ok (.aload_n 0, 1) := by decide +kernel
theorem dX12_readsLine_112 : decode cX12_readsLine 112 = .ok (.iconst 0, 1) := by decide +kernel
theorem dX12_readsLine_113 : decode cX12_readsLine 113 = .ok (.invokevirtual 280, 3) := by decide +kernel
theorem dX12_readsLine_116 : decode cX12_readsLine 116 = .ok (.iastore, 1) := by decide +kernel
theorem dX12_readsLine_117 : decode cX12_readsLine 117 = .ok (.aload_n 0, 1) := by decide +kernel
theorem dX12_readsLine_118 : decode cX12_readsLine 118 = .ok (.getfield 87, 3) := by decide +kernel
theorem dX12_readsLine_121 : decode cX12_readsLine 121 = .ok (.iload_n 2, 1) := by decide +kernel
theorem dX12_readsLine_122 : decode cX12_readsLine 122 = .ok (.iaload, 1) := by decide +kernel
theorem dX12_readsLine_123 : decode cX12_readsLine 123 = .ok (.ifCond .ge 9, 3) := by decide +kernel
theorem dX12_readsLine_126 : decode cX12_readsLine 126 = .ok (.aload_n 0, 1) := by decide +kernel
theorem dX12_readsLine_127 : decode cX12_readsLine 127 = .ok (.iconst 2, 1) := by decide +kernel
theorem dX12_readsLine_128 : decode cX12_readsLine 128 = .ok (.invokevirtual 206, 3) := by decide +kernel
theorem dX12_readsLine_131 : decode cX12_readsLine 131 = .ok (.ireturn, 1) := by decide +kernel
theorem dX12_readsLine_132 : decode cX12_readsLine 132 = .ok (.aload_n 0, 1) := by decide +kernel
theorem dX12_readsLine_133 : decode cX12_readsLine 133 = .ok (.invokevirtual 212, 3) := by decide +kernel
theorem dX12_readsLine_136 : decode cX12_readsLine 136 = .ok (.iload_n 1, 1) := by decide +kernel
theorem dX12_readsLine_137 : decode cX12_readsLine 137 = .ok (.iconst 1, 1) := by decide +kernel
theorem dX12_readsLine_138 : decode cX12_readsLine 138 = .ok (.if_icmp .eq 27, 3) := by decide +kernel
theorem dX12_readsLine_141 : decode cX12_readsLine 141 = .ok (.aload_n 0, 1) := by decide +kernel
theorem dX12_readsLine_142 : decode cX12_readsLine 142 = .ok (.iconst 0, 1) := by decide +kernel
theorem dX12_readsLine_143 : decode cX12_readsLine 143 = .ok (.invokevirtual 296, 3) := by decide +kernel
theorem dX12_readsLine_146 : decode cX12_readsLine 146 = .ok (.ifCond .ne 5, 3) := by decide +kernel
theorem dX12_readsLine_149 : decode cX12_readsLine 149 = .ok (.iconst 0, 1) := by decide +kernel
theorem dX12_readsLine_150 : decode cX12_readsLine 150 = .ok (.ireturn, 1) := by decide +kernel
theorem dX12_readsLine_151 : decode cX12_readsLine 151 = .ok (.aload_n 0, 1) := by decide +kernel
theorem dX12_readsLine_152 : decode cX12_readsLine 152 = .ok (.getfield 90, 3) := by decide +kernel
theorem dX12_readsLine_155 : decode cX12_readsLine 155 = .ok (.iload_n 2, 1) := by decide +kernel
theorem dX12_readsLine_156 : decode cX12_readsLine 156 = .ok (.aload_n 0, 1) := by decide +kernel
theorem dX12_readsLine_157 : decode cX12_readsLine 157 = .ok (.getfield 266, 3) := by decide +kernel
theorem dX12_readsLine_160 : decode cX12_readsLine 160 = .ok (.iastore, 1) := by decide +kernel
theorem dX12_readsLine_161 : decode cX12_readsLine 161 = .ok (.aload_n 0, 1) := by decide +kernel
theorem dX12_readsLine_162 : decode cX12_readsLine 162 = .ok (.invokevirtual 212, 3) := by decide +kernel
theorem dX12_readsLine_165 : decode cX12_readsLine 165 = .ok (.aload_n 0, 1) := by decide +kernel
theorem dX12_readsLine_166 : decode cX12_readsLine 166 = .ok (.getfield 81, 3) := by decide +kernel
theorem dX12_readsLine_169 : decode cX12_readsLine 169 = .ok (.iconst 5, 1) := by decide +kernel
theorem dX12_readsLine_170 : decode cX12_readsLine 170 = .ok (.dup2, 1) := by decide +kernel
theorem dX12_readsLine_171 : decode cX12_readsLine 171 = .ok (.iaload, 1) := by decide +kernel
theorem dX12_readsLine_172 : decode cX12_readsLine 172 = .ok (.iconst 1, 1) := by decide +kernel
theorem dX12_readsLine_173 : decode cX12_readsLine 173 = .ok (.iadd, 1) := by decide +kernel
theorem dX12_readsLine_174 : decode cX12_readsLine 174 = .ok (.iastore, 1) := by decide +kernel
theorem dX12_readsLine_175 : decode cX12_readsLine 175 = .ok (.aload_n 0, 1) := by decide +kernel
theorem dX12_readsLine_176 : decode cX12_readsLine 176 = .ok (.invokevirtual 293, 3) := by decide +kernel
theorem dX12_readsLine_179 : decode cX12_readsLine 179 = .ok (.ireturn, 1) := by decide +kernel
def F_m_thoughtNamed0 (g : Nat → Int32) (n : Nat) (rs : mRS) (a : mAS) : Int32 := pl (fun i => (a.2.1) (0 + i)) (mw g n rs.2.1) (((a.1) 0).toNatClampNeg) 0
set_option maxHeartbeats 4000000 in
set_option maxRecDepth 100000 in
theorem lp_m_thoughtNamed0 {γ : kΓ} {l : Launch} {p : Program} {e : Env} {s : State} {m : MethodId} {below : List Frame} {meth : Method} {c : Code} {A : Nat → Prop} (z : Nat) (z2 : Nat) (z10 : Nat) (z11 : Nat) (z12 : Nat) (z13 : Nat) (z14 : Nat) (z15 : Nat) (z16 : Nat) (z17 : Nat) (z18 : Nat) (z19 : Nat) (z22 : Nat) (z23 : Nat) (z24 : Nat) (z25 : Nat) (z26 : Nat) (z27 : Nat) (z28 : Nat) (z29 : Nat) (z30 : Nat) (z31 : Nat) (z32 : Nat) (z33 : Nat) (z36 : Nat) (z37 : Nat) (z38 : Nat) (z39 : Nat) (z40 : Nat) (z41 : Nat) (z42 : Nat) (z43 : Nat) (z44 : Nat) (z45 : Nat) (z46 : Nat) (z47 : Nat) (z48 : Nat) (z55 : Nat) (z56 : Nat) (z59 : Nat) (z60 : Nat) (z61 : Nat) (n0 : Int32) (n1 : Int32) (n49 : Int32) (n50 : Int32) (n51 : Int32) (n52 : Int32) (n53 : Int32) (n54 : Int32) (n57 : Int32) (n58 : Int32) (n62 : Int32) (n63 : Int64) (n : Nat) (g : Nat → Int32) (rs : mRS) (a : mAS) (T : Nat) (R9 : Int32) (hT : T ≤ 8) (hab : (a.1) 0 = nI T) (hC : kC γ p s m [.ref z, .int 0].toArray c cX12_thoughtNamed 3 RX12 A) (hr : meth.sig.returnType = some .int) (hlocks : meth.locks = false) : ∀ (d i : Nat), T - i < d → i ≤ T → pl (fun i => (a.2.1) (0 + i)) (mw g n rs.2.1) (T - i) i = R9 → ∀ (H : Heap) (locs : List Loc), kW γ A ((mWz γ z z2 z10 z11 z12 z13 z14 z15 z16 z17 z18 z19 z22 z23 z24 z25 z26 z27 z28 z29 z30 z31 z32 z33 z36 z37 z38 z39 z40 z41 z42 z43 z44 z45 z46 z47 z48 z55 z56 z59 z60 z61 n0 n1 n49 n50 n51 n52 n53 n54 n57 n58 n62 n63 g n rs) ++ (mWa γ z10 z11 z12 z13 z14 z15 z16 z17 z18 z19 z22 z23 a)) s H locs → ∀ ls : Array Slot, lv_has ls 3 [(2, .int (nI (0 + i))), (0, .ref z), (1, .int 0)] → W p l e ({ frames := 0, cells := 0, slots := 0, locals := 0 } : Room) s m [.ref z, .int 0].toArray below meth c H locs 0 0 (MQ below (kQ γ A (fun r w1 => r = some (.int R9) ∧ w1 = ((mWz γ z z2 z10 z11 z12 z13 z14 z15 z16 z17 z18 z19 z22 z23 z24 z25 z26 z27 z28 z29 z30 z31 z32 z33 z36 z37 z38 z39 z40 z41 z42 z43 z44 z45 z46 z47 z48 z55 z56 z59 z60 z61 n0 n1 n49 n50 n51 n52 n53 n54 n57 n58 n62 n63 g n rs) ++ (mWa γ z10 z11 z12 z13 z14 z15 z16 z17 z18 z19 z22 z23 a)))) [.ref z, .int 0].toArray s 0 0 A) (F0 m 5 ls []) := by
  have hx := hC.1
  have hb := hC.2.1
  intro d
  induction d with
  | zero => intro i hd; exact absurd hd (Nat.not_lt_zero _)
  | succ d ih =>
    intro i hd him hR H locs hw ls hl
    refine lv_iload_n hx hb dX12_thoughtNamed_5 rfl (lv_at hl 0 rfl) ?_
    refine lv_bipush (v := 8) hx hb dX12_thoughtNamed_6 (by decide) ?_
    refine lv_iload_n hx hb dX12_thoughtNamed_8 rfl (lv_at hl 2 rfl) ?_
    refine lv_imul hx hb dX12_thoughtNamed_9 ?_
    refine lv_topi (fun x_403 ex_403 => ?_)
    obtain rfl : x_403 = 0 := ex_403.trans (by decide)
    refine lv_aload_n hx hb dX12_thoughtNamed_10 rfl (lv_at hl 1 rfl) ?_
    refine fg_RX12_13 hC hw 0 rfl rfl dX12_thoughtNamed_11 ?_
    refine lv_iconst (v := 5) hx hb dX12_thoughtNamed_14 (by decide) ?_
    refine lv_iload_n hx hb dX12_thoughtNamed_15 rfl (lv_at hl 2 rfl) ?_
    refine lv_imul hx hb dX12_thoughtNamed_16 ?_
    refine lv_topi (fun x_404 ex_404 => ?_)
    obtain rfl : x_404 = 0 := ex_404.trans (by decide)
    refine lv_iconst (v := 0) hx hb dX12_thoughtNamed_17 (by decide) ?_
    refine lv_iadd hx hb dX12_thoughtNamed_18 ?_
    refine lv_topi (fun x_405 ex_405 => ?_)
    obtain rfl : x_405 = 0 := ex_405.trans (by decide)
    refine k_iald hC hw 2 rfl (k_in0 (by decide)) dX12_thoughtNamed_19 ?_
    refine lv_topi (fun x_406 ex_406 => ?_)
    obtain rfl : x_406 = ((a.1) 0) := ex_406
    refine lv_iadd hx hb dX12_thoughtNamed_20 ?_
    refine lv_topi (fun x_407 ex_407 => ?_)
    obtain rfl : x_407 = (nI (0 + T)) := ex_407.trans (by rw [hab]; exact nI_add 0 T)
    refine lv_icmp_ge (tgt := 51) hx hb dX12_thoughtNamed_21 (by decide) (fun c6 => ?_) (fun c6 => ?_)
    · have h6 : ¬ i < T := fun h9 => absurd c6 (nI_ge (a := 0 + i) (b := 0 + T) (by omega) (by omega))
      refine lv_iconst (v := (-1)) hx hb dX12_thoughtNamed_51 (by decide) ?_
      exact k_iret hC hr hlocks hw [0, 1, 2, 3, 4, 5, 6, 7, 8, 9, 10, 11, 12, 13] rfl rfl ⟨by rw [← hR, pl_e h6], rfl⟩ (by decide) (by decide) dX12_thoughtNamed_52
    · have h6 : i < T := by rcases Nat.lt_or_ge i T with h9 | h9; exact h9; exact absurd (nI_le (a := 0 + T) (b := 0 + i) (by omega) (by omega)) c6
      refine lv_aload_n hx hb dX12_thoughtNamed_24 rfl (lv_at hl 1 rfl) ?_
      refine fg_RX12_16 hC hw 0 rfl rfl dX12_thoughtNamed_25 ?_
      refine lv_iload_n hx hb dX12_thoughtNamed_28 rfl (lv_at hl 0 rfl) ?_
      refine k_lald hC hw 3 rfl (vp_in_nI (by omega) (by decide)) dX12_thoughtNamed_29 ?_
      refine lv_topl (fun y ey => ?_)
      obtain rfl : y = (a.2.1) (0 + i) := (show y = (a.2.1) (nI (0 + i) : Int32).toNatClampNeg from ey).trans (by rw [nI_clamp (by omega)])
      refine lv_aload_n hx hb dX12_thoughtNamed_30 rfl (lv_at hl 1 rfl) ?_
      refine fg_RX12_160 hC hw 0 rfl rfl dX12_thoughtNamed_31 ?_
      refine W.lcmp hx hb dX12_thoughtNamed_34 ?_
      refine lv_if_ne (tgt := 45) hx hb dX12_thoughtNamed_35 (by decide) (fun hne => ?_) (fun heq => ?_)
      · have hx9 : ¬ (fun i => (a.2.1) (0 + i)) i = mw g n rs.2.1 := fun e9 => hne (by rw [show (a.2.1) (0 + i) = mw g n rs.2.1 from e9]; exact k_cmp_self9 _)
        refine lv_iinc (v := (nI (0 + (i + 1)))) (lv' := [(2, .int (nI (0 + (i + 1)))), (0, .ref z), (1, .int 0)]) hx hb dX12_thoughtNamed_45 hl (k := 0) rfl (nI_1 _) (by decide) rfl (fun ls hl => ?_)
        refine lv_goto (tgt := 5) hx hb dX12_thoughtNamed_48 (by decide) ?_
        exact ih (i + 1) (by omega) (by omega) ((pl_n h6 hx9).symm.trans hR) _ _ hw _ hl
      · have hx9 : (fun i => (a.2.1) (0 + i)) i = mw g n rs.2.1 := k_cmp0 heq
        refine lv_iload_n hx hb dX12_thoughtNamed_38 rfl (lv_at hl 0 rfl) ?_
        refine lv_bipush (v := 8) hx hb dX12_thoughtNamed_39 (by decide) ?_
        refine lv_iload_n hx hb dX12_thoughtNamed_41 rfl (lv_at hl 2 rfl) ?_
        refine lv_imul hx hb dX12_thoughtNamed_42 ?_
        refine lv_topi (fun x_408 ex_408 => ?_)
        obtain rfl : x_408 = 0 := ex_408.trans (by decide)
        refine lv_isub hx hb dX12_thoughtNamed_43 ?_
        refine lv_topi (fun x_409 ex_409 => ?_)
        obtain rfl : x_409 = (nI i) := ex_409.trans (mI_sub0)
        exact k_iret hC hr hlocks hw [0, 1, 2, 3, 4, 5, 6, 7, 8, 9, 10, 11, 12, 13] rfl rfl ⟨by rw [← hR, pl_y h6 hx9], rfl⟩ (by decide) (by decide) dX12_thoughtNamed_44
set_option maxHeartbeats 4000000 in
set_option maxRecDepth 100000 in
theorem c_m_thoughtNamed0 (γ : kΓ) (l : Launch) (z : Nat) (z2 : Nat) (z10 : Nat) (z11 : Nat) (z12 : Nat) (z13 : Nat) (z14 : Nat) (z15 : Nat) (z16 : Nat) (z17 : Nat) (z18 : Nat) (z19 : Nat) (z22 : Nat) (z23 : Nat) (z24 : Nat) (z25 : Nat) (z26 : Nat) (z27 : Nat) (z28 : Nat) (z29 : Nat) (z30 : Nat) (z31 : Nat) (z32 : Nat) (z33 : Nat) (z36 : Nat) (z37 : Nat) (z38 : Nat) (z39 : Nat) (z40 : Nat) (z41 : Nat) (z42 : Nat) (z43 : Nat) (z44 : Nat) (z45 : Nat) (z46 : Nat) (z47 : Nat) (z48 : Nat) (z55 : Nat) (z56 : Nat) (z59 : Nat) (z60 : Nat) (z61 : Nat) (n0 : Int32) (n1 : Int32) (n49 : Int32) (n50 : Int32) (n51 : Int32) (n52 : Int32) (n53 : Int32) (n54 : Int32) (n57 : Int32) (n58 : Int32) (n62 : Int32) (n63 : Int64) (n : Nat) (g : Nat → Int32) (rs : mRS) (a : mAS) (hn : n ≤ 1000) (hT0 : 0 ≤ ((a.1) 0).toInt) (hT8 : ((a.1) 0).toInt ≤ 8) : kM γ l yX12_thoughtNamed cX12_thoughtNamed 3 ((some .int)) ({ frames := 0, cells := 0, slots := 0, locals := 0 } : Room) [.ref z, .int 0] ((mWz γ z z2 z10 z11 z12 z13 z14 z15 z16 z17 z18 z19 z22 z23 z24 z25 z26 z27 z28 z29 z30 z31 z32 z33 z36 z37 z38 z39 z40 z41 z42 z43 z44 z45 z46 z47 z48 z55 z56 z59 z60 z61 n0 n1 n49 n50 n51 n52 n53 n54 n57 n58 n62 n63 g n rs) ++ (mWa γ z10 z11 z12 z13 z14 z15 z16 z17 z18 z19 z22 z23 a)) (fun r w1 => r = some (.int (F_m_thoughtNamed0 g n rs a)) ∧ w1 = ((mWz γ z z2 z10 z11 z12 z13 z14 z15 z16 z17 z18 z19 z22 z23 z24 z25 z26 z27 z28 z29 z30 z31 z32 z33 z36 z37 z38 z39 z40 z41 z42 z43 z44 z45 z46 z47 z48 z55 z56 z59 z60 z61 n0 n1 n49 n50 n51 n52 n53 n54 n57 n58 n62 n63 g n rs) ++ (mWa γ z10 z11 z12 z13 z14 z15 z16 z17 z18 z19 z22 z23 a))) := by
  refine k_ofW (by decide) (Nat.le_of_ble_eq_true rfl) ?_
  intro p9 e s m below meth c A ls hC hr hlocks hname hw hl
  have hx := hC.1
  have hb := hC.2.1
  have hl : lv_has ls 3 [(0, .ref z), (1, .int 0)] := hl
  refine lv_bipush (v := 8) hx hb dX12_thoughtNamed_0 (by decide) ?_
  refine lv_iload_n hx hb dX12_thoughtNamed_2 rfl (lv_at hl 1 rfl) ?_
  refine lv_imul hx hb dX12_thoughtNamed_3 ?_
  refine lv_topi (fun x_410 ex_410 => ?_)
  obtain rfl : x_410 = 0 := ex_410.trans (by decide)
  refine lv_istore_n (lv' := [(2, .int 0), (0, .ref z), (1, .int 0)]) hx hb dX12_thoughtNamed_4 rfl hl (by decide) rfl (fun ls hl => ?_)
  exact lp_m_thoughtNamed0 z z2 z10 z11 z12 z13 z14 z15 z16 z17 z18 z19 z22 z23 z24 z25 z26 z27 z28 z29 z30 z31 z32 z33 z36 z37 z38 z39 z40 z41 z42 z43 z44 z45 z46 z47 z48 z55 z56 z59 z60 z61 n0 n1 n49 n50 n51 n52 n53 n54 n57 n58 n62 n63 n g rs a (((a.1) 0).toNatClampNeg) _ (cl_le hT8) (cl_nI hT0) hC hr hlocks ((((a.1) 0).toNatClampNeg) + 1) 0 (by omega) (Nat.zero_le _) rfl _ _ hw _ hl

def F_m_tenantNamed0 (g : Nat → Int32) (n : Nat) (rs : mRS) (a : mAS) : Int32 := pl (fun i => (a.2.2.1) (0 + i)) (mw g n rs.2.1) (((a.1) 1).toNatClampNeg) 0
set_option maxHeartbeats 4000000 in
set_option maxRecDepth 100000 in
theorem lp_m_tenantNamed0 {γ : kΓ} {l : Launch} {p : Program} {e : Env} {s : State} {m : MethodId} {below : List Frame} {meth : Method} {c : Code} {A : Nat → Prop} (z : Nat) (z2 : Nat) (z10 : Nat) (z11 : Nat) (z12 : Nat) (z13 : Nat) (z14 : Nat) (z15 : Nat) (z16 : Nat) (z17 : Nat) (z18 : Nat) (z19 : Nat) (z22 : Nat) (z23 : Nat) (z24 : Nat) (z25 : Nat) (z26 : Nat) (z27 : Nat) (z28 : Nat) (z29 : Nat) (z30 : Nat) (z31 : Nat) (z32 : Nat) (z33 : Nat) (z36 : Nat) (z37 : Nat) (z38 : Nat) (z39 : Nat) (z40 : Nat) (z41 : Nat) (z42 : Nat) (z43 : Nat) (z44 : Nat) (z45 : Nat) (z46 : Nat) (z47 : Nat) (z48 : Nat) (z55 : Nat) (z56 : Nat) (z59 : Nat) (z60 : Nat) (z61 : Nat) (n0 : Int32) (n1 : Int32) (n49 : Int32) (n50 : Int32) (n51 : Int32) (n52 : Int32) (n53 : Int32) (n54 : Int32) (n57 : Int32) (n58 : Int32) (n62 : Int32) (n63 : Int64) (n : Nat) (g : Nat → Int32) (rs : mRS) (a : mAS) (T : Nat) (R9 : Int32) (hT : T ≤ 5) (hab : (a.1) 1 = nI T) (hC : kC γ p s m [.ref z, .int 0].toArray c cX12_tenantNamed 3 RX12 A) (hr : meth.sig.returnType = some .int) (hlocks : meth.locks = false) : ∀ (d i : Nat), T - i < d → i ≤ T → pl (fun i => (a.2.2.1) (0 + i)) (mw g n rs.2.1) (T - i) i = R9 → ∀ (H : Heap) (locs : List Loc), kW γ A ((mWz γ z z2 z10 z11 z12 z13 z14 z15 z16 z17 z18 z19 z22 z23 z24 z25 z26 z27 z28 z29 z30 z31 z32 z33 z36 z37 z38 z39 z40 z41 z42 z43 z44 z45 z46 z47 z48 z55 z56 z59 z60 z61 n0 n1 n49 n50 n51 n52 n53 n54 n57 n58 n62 n63 g n rs) ++ (mWa γ z10 z11 z12 z13 z14 z15 z16 z17 z18 z19 z22 z23 a)) s H locs → ∀ ls : Array Slot, lv_has ls 3 [(2, .int (nI (0 + i))), (0, .ref z), (1, .int 0)] → W p l e ({ frames := 0, cells := 0, slots := 0, locals := 0 } : Room) s m [.ref z, .int 0].toArray below meth c H locs 0 0 (MQ below (kQ γ A (fun r w1 => r = some (.int R9) ∧ w1 = ((mWz γ z z2 z10 z11 z12 z13 z14 z15 z16 z17 z18 z19 z22 z23 z24 z25 z26 z27 z28 z29 z30 z31 z32 z33 z36 z37 z38 z39 z40 z41 z42 z43 z44 z45 z46 z47 z48 z55 z56 z59 z60 z61 n0 n1 n49 n50 n51 n52 n53 n54 n57 n58 n62 n63 g n rs) ++ (mWa γ z10 z11 z12 z13 z14 z15 z16 z17 z18 z19 z22 z23 a)))) [.ref z, .int 0].toArray s 0 0 A) (F0 m 4 ls []) := by
  have hx := hC.1
  have hb := hC.2.1
  intro d
  induction d with
  | zero => intro i hd; exact absurd hd (Nat.not_lt_zero _)
  | succ d ih =>
    intro i hd him hR H locs hw ls hl
    refine lv_iload_n hx hb dX12_tenantNamed_4 rfl (lv_at hl 0 rfl) ?_
    refine lv_iconst (v := 5) hx hb dX12_tenantNamed_5 (by decide) ?_
    refine lv_iload_n hx hb dX12_tenantNamed_6 rfl (lv_at hl 2 rfl) ?_
    refine lv_imul hx hb dX12_tenantNamed_7 ?_
    refine lv_topi (fun x_411 ex_411 => ?_)
    obtain rfl : x_411 = 0 := ex_411.trans (by decide)
    refine lv_aload_n hx hb dX12_tenantNamed_8 rfl (lv_at hl 1 rfl) ?_
    refine fg_RX12_13 hC hw 0 rfl rfl dX12_tenantNamed_9 ?_
    refine lv_iconst (v := 5) hx hb dX12_tenantNamed_12 (by decide) ?_
    refine lv_iload_n hx hb dX12_tenantNamed_13 rfl (lv_at hl 2 rfl) ?_
    refine lv_imul hx hb dX12_tenantNamed_14 ?_
    refine lv_topi (fun x_412 ex_412 => ?_)
    obtain rfl : x_412 = 0 := ex_412.trans (by decide)
    refine lv_iconst (v := 1) hx hb dX12_tenantNamed_15 (by decide) ?_
    refine lv_iadd hx hb dX12_tenantNamed_16 ?_
    refine lv_topi (fun x_413 ex_413 => ?_)
    obtain rfl : x_413 = 1 := ex_413.trans (by decide)
    refine k_iald hC hw 2 rfl (k_in0 (by decide)) dX12_tenantNamed_17 ?_
    refine lv_topi (fun x_414 ex_414 => ?_)
    obtain rfl : x_414 = ((a.1) 1) := ex_414
    refine lv_iadd hx hb dX12_tenantNamed_18 ?_
    refine lv_topi (fun x_415 ex_415 => ?_)
    obtain rfl : x_415 = (nI (0 + T)) := ex_415.trans (by rw [hab]; exact nI_add 0 T)
    refine lv_icmp_ge (tgt := 48) hx hb dX12_tenantNamed_19 (by decide) (fun c6 => ?_) (fun c6 => ?_)
    · have h6 : ¬ i < T := fun h9 => absurd c6 (nI_ge (a := 0 + i) (b := 0 + T) (by omega) (by omega))
      refine lv_iconst (v := (-1)) hx hb dX12_tenantNamed_48 (by decide) ?_
      exact k_iret hC hr hlocks hw [0, 1, 2, 3, 4, 5, 6, 7, 8, 9, 10, 11, 12, 13] rfl rfl ⟨by rw [← hR, pl_e h6], rfl⟩ (by decide) (by decide) dX12_tenantNamed_49
    · have h6 : i < T := by rcases Nat.lt_or_ge i T with h9 | h9; exact h9; exact absurd (nI_le (a := 0 + T) (b := 0 + i) (by omega) (by omega)) c6
      refine lv_aload_n hx hb dX12_tenantNamed_22 rfl (lv_at hl 1 rfl) ?_
      refine fg_RX12_20 hC hw 0 rfl rfl dX12_tenantNamed_23 ?_
      refine lv_iload_n hx hb dX12_tenantNamed_26 rfl (lv_at hl 0 rfl) ?_
      refine k_lald hC hw 4 rfl (vp_in_nI (by omega) (by decide)) dX12_tenantNamed_27 ?_
      refine lv_topl (fun y ey => ?_)
      obtain rfl : y = (a.2.2.1) (0 + i) := (show y = (a.2.2.1) (nI (0 + i) : Int32).toNatClampNeg from ey).trans (by rw [nI_clamp (by omega)])
      refine lv_aload_n hx hb dX12_tenantNamed_28 rfl (lv_at hl 1 rfl) ?_
      refine fg_RX12_160 hC hw 0 rfl rfl dX12_tenantNamed_29 ?_
      refine W.lcmp hx hb dX12_tenantNamed_32 ?_
      refine lv_if_ne (tgt := 42) hx hb dX12_tenantNamed_33 (by decide) (fun hne => ?_) (fun heq => ?_)
      · have hx9 : ¬ (fun i => (a.2.2.1) (0 + i)) i = mw g n rs.2.1 := fun e9 => hne (by rw [show (a.2.2.1) (0 + i) = mw g n rs.2.1 from e9]; exact k_cmp_self9 _)
        refine lv_iinc (v := (nI (0 + (i + 1)))) (lv' := [(2, .int (nI (0 + (i + 1)))), (0, .ref z), (1, .int 0)]) hx hb dX12_tenantNamed_42 hl (k := 0) rfl (nI_1 _) (by decide) rfl (fun ls hl => ?_)
        refine lv_goto (tgt := 4) hx hb dX12_tenantNamed_45 (by decide) ?_
        exact ih (i + 1) (by omega) (by omega) ((pl_n h6 hx9).symm.trans hR) _ _ hw _ hl
      · have hx9 : (fun i => (a.2.2.1) (0 + i)) i = mw g n rs.2.1 := k_cmp0 heq
        refine lv_iload_n hx hb dX12_tenantNamed_36 rfl (lv_at hl 0 rfl) ?_
        refine lv_iconst (v := 5) hx hb dX12_tenantNamed_37 (by decide) ?_
        refine lv_iload_n hx hb dX12_tenantNamed_38 rfl (lv_at hl 2 rfl) ?_
        refine lv_imul hx hb dX12_tenantNamed_39 ?_
        refine lv_topi (fun x_416 ex_416 => ?_)
        obtain rfl : x_416 = 0 := ex_416.trans (by decide)
        refine lv_isub hx hb dX12_tenantNamed_40 ?_
        refine lv_topi (fun x_417 ex_417 => ?_)
        obtain rfl : x_417 = (nI i) := ex_417.trans (mI_sub0)
        exact k_iret hC hr hlocks hw [0, 1, 2, 3, 4, 5, 6, 7, 8, 9, 10, 11, 12, 13] rfl rfl ⟨by rw [← hR, pl_y h6 hx9], rfl⟩ (by decide) (by decide) dX12_tenantNamed_41
set_option maxHeartbeats 4000000 in
set_option maxRecDepth 100000 in
theorem c_m_tenantNamed0 (γ : kΓ) (l : Launch) (z : Nat) (z2 : Nat) (z10 : Nat) (z11 : Nat) (z12 : Nat) (z13 : Nat) (z14 : Nat) (z15 : Nat) (z16 : Nat) (z17 : Nat) (z18 : Nat) (z19 : Nat) (z22 : Nat) (z23 : Nat) (z24 : Nat) (z25 : Nat) (z26 : Nat) (z27 : Nat) (z28 : Nat) (z29 : Nat) (z30 : Nat) (z31 : Nat) (z32 : Nat) (z33 : Nat) (z36 : Nat) (z37 : Nat) (z38 : Nat) (z39 : Nat) (z40 : Nat) (z41 : Nat) (z42 : Nat) (z43 : Nat) (z44 : Nat) (z45 : Nat) (z46 : Nat) (z47 : Nat) (z48 : Nat) (z55 : Nat) (z56 : Nat) (z59 : Nat) (z60 : Nat) (z61 : Nat) (n0 : Int32) (n1 : Int32) (n49 : Int32) (n50 : Int32) (n51 : Int32) (n52 : Int32) (n53 : Int32) (n54 : Int32) (n57 : Int32) (n58 : Int32) (n62 : Int32) (n63 : Int64) (n : Nat) (g : Nat → Int32) (rs : mRS) (a : mAS) (hn : n ≤ 1000) (hQ0 : 0 ≤ ((a.1) 1).toInt) (hQ5 : ((a.1) 1).toInt ≤ 5) : kM γ l yX12_tenantNamed cX12_tenantNamed 3 ((some .int)) ({ frames := 0, cells := 0, slots := 0, locals := 0 } : Room) [.ref z, .int 0] ((mWz γ z z2 z10 z11 z12 z13 z14 z15 z16 z17 z18 z19 z22 z23 z24 z25 z26 z27 z28 z29 z30 z31 z32 z33 z36 z37 z38 z39 z40 z41 z42 z43 z44 z45 z46 z47 z48 z55 z56 z59 z60 z61 n0 n1 n49 n50 n51 n52 n53 n54 n57 n58 n62 n63 g n rs) ++ (mWa γ z10 z11 z12 z13 z14 z15 z16 z17 z18 z19 z22 z23 a)) (fun r w1 => r = some (.int (F_m_tenantNamed0 g n rs a)) ∧ w1 = ((mWz γ z z2 z10 z11 z12 z13 z14 z15 z16 z17 z18 z19 z22 z23 z24 z25 z26 z27 z28 z29 z30 z31 z32 z33 z36 z37 z38 z39 z40 z41 z42 z43 z44 z45 z46 z47 z48 z55 z56 z59 z60 z61 n0 n1 n49 n50 n51 n52 n53 n54 n57 n58 n62 n63 g n rs) ++ (mWa γ z10 z11 z12 z13 z14 z15 z16 z17 z18 z19 z22 z23 a))) := by
  refine k_ofW (by decide) (Nat.le_of_ble_eq_true rfl) ?_
  intro p9 e s m below meth c A ls hC hr hlocks hname hw hl
  have hx := hC.1
  have hb := hC.2.1
  have hl : lv_has ls 3 [(0, .ref z), (1, .int 0)] := hl
  refine lv_iconst (v := 5) hx hb dX12_tenantNamed_0 (by decide) ?_
  refine lv_iload_n hx hb dX12_tenantNamed_1 rfl (lv_at hl 1 rfl) ?_
  refine lv_imul hx hb dX12_tenantNamed_2 ?_
  refine lv_topi (fun x_418 ex_418 => ?_)
  obtain rfl : x_418 = 0 := ex_418.trans (by decide)
  refine lv_istore_n (lv' := [(2, .int 0), (0, .ref z), (1, .int 0)]) hx hb dX12_tenantNamed_3 rfl hl (by decide) rfl (fun ls hl => ?_)
  exact lp_m_tenantNamed0 z z2 z10 z11 z12 z13 z14 z15 z16 z17 z18 z19 z22 z23 z24 z25 z26 z27 z28 z29 z30 z31 z32 z33 z36 z37 z38 z39 z40 z41 z42 z43 z44 z45 z46 z47 z48 z55 z56 z59 z60 z61 n0 n1 n49 n50 n51 n52 n53 n54 n57 n58 n62 n63 n g rs a (((a.1) 1).toNatClampNeg) _ (cl_le hQ5) (cl_nI hQ0) hC hr hlocks ((((a.1) 1).toNatClampNeg) + 1) 0 (by omega) (Nat.zero_le _) rfl _ _ hw _ hl

def mO0 (a : mAS) : Prop := (0 ≤ (a.1 0).toInt ∧ (a.1 0).toInt ≤ 8) ∧ (0 ≤ (a.1 1).toInt ∧ (a.1 1).toInt ≤ 5)
theorem in240 {x : Int32} (h0 : 0 ≤ x.toInt) (h8 : x.toInt ≤ 40) (hne : ¬ x = 40) : vp_in (200 + x) 240 := by
  have e : (200 + x).toInt = 200 + x.toInt := by
    rw [q_addT, show (200 : Int32).toInt = 200 from by decide, q_bmod (by unfold i32lo; omega) (by unfold i32hi; omega)]
  refine k_in0 ⟨by omega, ?_⟩
  have h9 : ¬ x.toInt = 40 := fun h => hne (Int32.toInt_inj.mp (h.trans (by decide)))
  omega
theorem up40 {x : Int32} (h0 : 0 ≤ x.toInt) (h8 : x.toInt ≤ 40) (hne : ¬ x = 40) : 0 ≤ (x + 1).toInt ∧ (x + 1).toInt ≤ 40 := by
  have e : (x + 1).toInt = x.toInt + 1 := by
    rw [q_addT, show (1 : Int32).toInt = 1 from by decide, q_bmod (by unfold i32lo; omega) (by unfold i32hi; omega)]
  have h9 : ¬ x.toInt = 40 := fun h => hne (Int32.toInt_inj.mp (h.trans (by decide)))
  omega

def F_m_needsThought0 (g : Nat → Int32) (n : Nat) (rs : mRS) (a : mAS) : Int32 × mRS :=
  if (F_m_isKept g n rs) = 0 then (if 0 ≤ (F_m_thoughtNamed0 g n rs a) then (1, ((rs.1), (rs.2.1), (F_m_thoughtNamed0 g n rs a), (rs.2.2.2.1), (rs.2.2.2.2.1), (rs.2.2.2.2.2))) else (0, (F_m_fails g n ((rs.1), (rs.2.1), (F_m_thoughtNamed0 g n rs a), (rs.2.2.2.1), (rs.2.2.2.2.1), (rs.2.2.2.2.2)) 2))) else (0, (F_m_fails g n rs 1))
set_option maxHeartbeats 4000000 in
set_option maxRecDepth 100000 in
theorem c_m_needsThought0 (γ : kΓ) (l : Launch) (z : Nat) (z2 : Nat) (z10 : Nat) (z11 : Nat) (z12 : Nat) (z13 : Nat) (z14 : Nat) (z15 : Nat) (z16 : Nat) (z17 : Nat) (z18 : Nat) (z19 : Nat) (z22 : Nat) (z23 : Nat) (z24 : Nat) (z25 : Nat) (z26 : Nat) (z27 : Nat) (z28 : Nat) (z29 : Nat) (z30 : Nat) (z31 : Nat) (z32 : Nat) (z33 : Nat) (z36 : Nat) (z37 : Nat) (z38 : Nat) (z39 : Nat) (z40 : Nat) (z41 : Nat) (z42 : Nat) (z43 : Nat) (z44 : Nat) (z45 : Nat) (z46 : Nat) (z47 : Nat) (z48 : Nat) (z55 : Nat) (z56 : Nat) (z59 : Nat) (z60 : Nat) (z61 : Nat) (n0 : Int32) (n1 : Int32) (n49 : Int32) (n50 : Int32) (n51 : Int32) (n52 : Int32) (n53 : Int32) (n54 : Int32) (n57 : Int32) (n58 : Int32) (n62 : Int32) (n63 : Int64) (n : Nat) (g : Nat → Int32) (rs : mRS) (a : mAS) (hn : n ≤ 1000) (hM0 : mO0 a) : kM γ l yX12_needsThought cX12_needsThought 2 ((some .boolean)) ({ frames := 1, cells := 0, slots := 0, locals := 22 } : Room) [.ref z, .int 0] ((mWz γ z z2 z10 z11 z12 z13 z14 z15 z16 z17 z18 z19 z22 z23 z24 z25 z26 z27 z28 z29 z30 z31 z32 z33 z36 z37 z38 z39 z40 z41 z42 z43 z44 z45 z46 z47 z48 z55 z56 z59 z60 z61 n0 n1 n49 n50 n51 n52 n53 n54 n57 n58 n62 n63 g n rs) ++ (mWa γ z10 z11 z12 z13 z14 z15 z16 z17 z18 z19 z22 z23 a)) (fun r w1 => r = some (.int ((F_m_needsThought0 g n rs a).1)) ∧ w1 = ((mWz γ z z2 z10 z11 z12 z13 z14 z15 z16 z17 z18 z19 z22 z23 z24 z25 z26 z27 z28 z29 z30 z31 z32 z33 z36 z37 z38 z39 z40 z41 z42 z43 z44 z45 z46 z47 z48 z55 z56 z59 z60 z61 n0 n1 n49 n50 n51 n52 n53 n54 n57 n58 n62 n63 g n ((F_m_needsThought0 g n rs a).2)) ++ (mWa γ z10 z11 z12 z13 z14 z15 z16 z17 z18 z19 z22 z23 a))) := by
  refine k_ofW (by decide) (Nat.le_of_ble_eq_true rfl) ?_
  intro p9 e s m below meth c A ls hC hr hlocks hname hw hl
  have hx := hC.1
  have hb := hC.2.1
  have hl : lv_has ls 2 [(0, .ref z), (1, .int 0)] := hl
  refine lv_aload_n hx hb dX12_needsThought_0 rfl (lv_at hl 0 rfl) ?_
  refine k_V (wr := (mWa γ z10 z11 z12 z13 z14 z15 z16 z17 z18 z19 z22 z23 a)) 0 gw_1429 gw_1431 gp_60 gw_15 gw_1432 hd_X12_isKept hC hw (c_m_isKept γ l z z2 z10 z11 z12 z13 z14 z15 z16 z17 z18 z19 z22 z23 z24 z25 z26 z27 z28 z29 z30 z31 z32 z33 z36 z37 z38 z39 z40 z41 z42 z43 z44 z45 z46 z47 z48 z55 z56 z59 z60 z61 n0 n1 n49 n50 n51 n52 n53 n54 n57 n58 n62 n63 n g rs hn) ⟨by decide, by decide⟩ ⟨by decide, by decide⟩ hl.1 rfl 0 rfl rfl rfl (Nat.le_of_ble_eq_true rfl) [0, 1] [2, 3, 4, 5, 6, 7, 8, 9, 10, 11, 12, 13] rfl rfl rfl rfl (by decide) dX12_needsThought_1 (fun r w1 H locs hq hw => ?_)
  obtain ⟨rfl, rfl⟩ := hq
  have hw : kW γ A ((mWa γ z10 z11 z12 z13 z14 z15 z16 z17 z18 z19 z22 z23 a) ++ (mWz γ z z2 z10 z11 z12 z13 z14 z15 z16 z17 z18 z19 z22 z23 z24 z25 z26 z27 z28 z29 z30 z31 z32 z33 z36 z37 z38 z39 z40 z41 z42 z43 z44 z45 z46 z47 z48 z55 z56 z59 z60 z61 n0 n1 n49 n50 n51 n52 n53 n54 n57 n58 n62 n63 g n rs)) s H locs := hw
  refine W.eq (g2 := F0 m 4 ls [.int (F_m_isKept g n rs)]) rfl ?_
  refine lv_if_eq (tgt := 13) hx hb dX12_needsThought_4 (by decide) (fun c_421 => ?_) (fun c_421 => ?_)
  · refine lv_aload_n hx hb dX12_needsThought_13 rfl (lv_at hl 0 rfl) ?_
    refine lv_aload_n hx hb dX12_needsThought_14 rfl (lv_at hl 0 rfl) ?_
    refine lv_iload_n hx hb dX12_needsThought_15 rfl (lv_at hl 1 rfl) ?_
    refine k_V (wr := []) 1 gw_1452 gw_1454 gp_61 gw_15 gw_1455 hd_X12_thoughtNamed hC hw (c_m_thoughtNamed0 γ l z z2 z10 z11 z12 z13 z14 z15 z16 z17 z18 z19 z22 z23 z24 z25 z26 z27 z28 z29 z30 z31 z32 z33 z36 z37 z38 z39 z40 z41 z42 z43 z44 z45 z46 z47 z48 z55 z56 z59 z60 z61 n0 n1 n49 n50 n51 n52 n53 n54 n57 n58 n62 n63 n g rs a hn hM0.1.1 hM0.1.2) ⟨by decide, by decide⟩ ⟨by decide, by decide⟩ hl.1 rfl 12 rfl rfl rfl (Nat.le_of_ble_eq_true rfl) [12, 13, 0, 1, 2, 3, 4, 5, 6, 7, 8, 9, 10, 11] [] rfl rfl rfl rfl (by decide) dX12_needsThought_16 (fun r w1 H locs hq hw => ?_)
    obtain ⟨rfl, rfl⟩ := hq
    have hw : kW γ A ((mWz γ z z2 z10 z11 z12 z13 z14 z15 z16 z17 z18 z19 z22 z23 z24 z25 z26 z27 z28 z29 z30 z31 z32 z33 z36 z37 z38 z39 z40 z41 z42 z43 z44 z45 z46 z47 z48 z55 z56 z59 z60 z61 n0 n1 n49 n50 n51 n52 n53 n54 n57 n58 n62 n63 g n rs) ++ (mWa γ z10 z11 z12 z13 z14 z15 z16 z17 z18 z19 z22 z23 a)) s H locs := hw
    refine W.eq (g2 := F0 m 19 ls [.int (F_m_thoughtNamed0 g n rs a), .ref z]) rfl ?_
    refine fs_RX12_266 hC hw 0 rfl rfl rfl (Nat.le_of_ble_eq_true rfl) dX12_needsThought_19 (fun H locs hw => ?_)
    have hw : kW γ A ((mWz γ z z2 z10 z11 z12 z13 z14 z15 z16 z17 z18 z19 z22 z23 z24 z25 z26 z27 z28 z29 z30 z31 z32 z33 z36 z37 z38 z39 z40 z41 z42 z43 z44 z45 z46 z47 z48 z55 z56 z59 z60 z61 n0 n1 n49 n50 n51 n52 n53 n54 n57 n58 n62 n63 g n ((rs.1), (rs.2.1), (F_m_thoughtNamed0 g n rs a), (rs.2.2.2.1), (rs.2.2.2.2.1), (rs.2.2.2.2.2))) ++ (mWa γ z10 z11 z12 z13 z14 z15 z16 z17 z18 z19 z22 z23 a)) s H locs := hw
    refine lv_aload_n hx hb dX12_needsThought_22 rfl (lv_at hl 0 rfl) ?_
    refine fg_RX12_266 hC hw 0 rfl rfl dX12_needsThought_23 ?_
    refine lv_if_ge (tgt := 37) hx hb dX12_needsThought_26 (by decide) (fun c_422 => ?_) (fun c_422 => ?_)
    · refine lv_iconst (v := 1) hx hb dX12_needsThought_37 (by decide) ?_
      refine lv_goto (tgt := 42) hx hb dX12_needsThought_38 (by decide) ?_
      have hE : (F_m_needsThought0 g n rs a) = (1, ((rs.1), (rs.2.1), (F_m_thoughtNamed0 g n rs a), (rs.2.2.2.1), (rs.2.2.2.2.1), (rs.2.2.2.2.2))) := by unfold F_m_needsThought0; rw [if_pos c_421, if_pos c_422]
      have hw : kW γ A ((mWz γ z z2 z10 z11 z12 z13 z14 z15 z16 z17 z18 z19 z22 z23 z24 z25 z26 z27 z28 z29 z30 z31 z32 z33 z36 z37 z38 z39 z40 z41 z42 z43 z44 z45 z46 z47 z48 z55 z56 z59 z60 z61 n0 n1 n49 n50 n51 n52 n53 n54 n57 n58 n62 n63 g n ((F_m_needsThought0 g n rs a).2)) ++ (mWa γ z10 z11 z12 z13 z14 z15 z16 z17 z18 z19 z22 z23 a)) s H locs := by first | (rw [hE]; exact hw) | exact hw
      exact k_zret hC hr hlocks rfl hw [0, 1, 2, 3, 4, 5, 6, 7, 8, 9, 10, 11, 12, 13] rfl rfl ⟨by rw [hE], rfl⟩ (by decide) (by decide) dX12_needsThought_42
    · refine lv_aload_n hx hb dX12_needsThought_29 rfl (lv_at hl 0 rfl) ?_
      refine lv_iconst (v := 2) hx hb dX12_needsThought_30 (by decide) ?_
      refine k_V (wr := (mWa γ z10 z11 z12 z13 z14 z15 z16 z17 z18 z19 z22 z23 a)) 1 gw_1421 gw_1423 gp_58 gw_15 gw_1424 hd_X12_fails hC hw (c_m_fails γ l z z2 z10 z11 z12 z13 z14 z15 z16 z17 z18 z19 z22 z23 z24 z25 z26 z27 z28 z29 z30 z31 z32 z33 z36 z37 z38 z39 z40 z41 z42 z43 z44 z45 z46 z47 z48 z55 z56 z59 z60 z61 n0 n1 n49 n50 n51 n52 n53 n54 n57 n58 n62 n63 n g ((rs.1), (rs.2.1), (F_m_thoughtNamed0 g n rs a), (rs.2.2.2.1), (rs.2.2.2.2.1), (rs.2.2.2.2.2)) 2 hn) ⟨by decide, by decide⟩ ⟨by decide, by decide⟩ hl.1 rfl 0 rfl rfl rfl (Nat.le_of_ble_eq_true rfl) [0, 1] [2, 3, 4, 5, 6, 7, 8, 9, 10, 11, 12, 13] rfl rfl rfl rfl (by decide) dX12_needsThought_31 (fun r w1 H locs hq hw => ?_)
      obtain ⟨rfl, rfl⟩ := hq
      have hw : kW γ A ((mWa γ z10 z11 z12 z13 z14 z15 z16 z17 z18 z19 z22 z23 a) ++ (mWz γ z z2 z10 z11 z12 z13 z14 z15 z16 z17 z18 z19 z22 z23 z24 z25 z26 z27 z28 z29 z30 z31 z32 z33 z36 z37 z38 z39 z40 z41 z42 z43 z44 z45 z46 z47 z48 z55 z56 z59 z60 z61 n0 n1 n49 n50 n51 n52 n53 n54 n57 n58 n62 n63 g n (F_m_fails g n ((rs.1), (rs.2.1), (F_m_thoughtNamed0 g n rs a), (rs.2.2.2.1), (rs.2.2.2.2.1), (rs.2.2.2.2.2)) 2))) s H locs := hw
      refine W.eq (g2 := F0 m 34 ls [.int 0]) rfl ?_
      refine lv_if_eq (tgt := 41) hx hb dX12_needsThought_34 (by decide) (fun _ => ?_) (fun h => absurd (by decide) h)
      refine lv_iconst (v := 0) hx hb dX12_needsThought_41 (by decide) ?_
      have hE : (F_m_needsThought0 g n rs a) = (0, (F_m_fails g n ((rs.1), (rs.2.1), (F_m_thoughtNamed0 g n rs a), (rs.2.2.2.1), (rs.2.2.2.2.1), (rs.2.2.2.2.2)) 2)) := by unfold F_m_needsThought0; rw [if_pos c_421, if_neg c_422]
      have hw : kW γ A ((mWa γ z10 z11 z12 z13 z14 z15 z16 z17 z18 z19 z22 z23 a) ++ (mWz γ z z2 z10 z11 z12 z13 z14 z15 z16 z17 z18 z19 z22 z23 z24 z25 z26 z27 z28 z29 z30 z31 z32 z33 z36 z37 z38 z39 z40 z41 z42 z43 z44 z45 z46 z47 z48 z55 z56 z59 z60 z61 n0 n1 n49 n50 n51 n52 n53 n54 n57 n58 n62 n63 g n ((F_m_needsThought0 g n rs a).2))) s H locs := by first | (rw [hE]; exact hw) | exact hw
      exact k_zret hC hr hlocks rfl hw [12, 13, 0, 1, 2, 3, 4, 5, 6, 7, 8, 9, 10, 11] rfl rfl ⟨by rw [hE], rfl⟩ (by decide) (by decide) dX12_needsThought_42
  · refine lv_aload_n hx hb dX12_needsThought_7 rfl (lv_at hl 0 rfl) ?_
    refine lv_iconst (v := 1) hx hb dX12_needsThought_8 (by decide) ?_
    refine k_V (wr := (mWa γ z10 z11 z12 z13 z14 z15 z16 z17 z18 z19 z22 z23 a)) 1 gw_1421 gw_1423 gp_58 gw_15 gw_1424 hd_X12_fails hC hw (c_m_fails γ l z z2 z10 z11 z12 z13 z14 z15 z16 z17 z18 z19 z22 z23 z24 z25 z26 z27 z28 z29 z30 z31 z32 z33 z36 z37 z38 z39 z40 z41 z42 z43 z44 z45 z46 z47 z48 z55 z56 z59 z60 z61 n0 n1 n49 n50 n51 n52 n53 n54 n57 n58 n62 n63 n g rs 1 hn) ⟨by decide, by decide⟩ ⟨by decide, by decide⟩ hl.1 rfl 12 rfl rfl rfl (Nat.le_of_ble_eq_true rfl) [12, 13] [0, 1, 2, 3, 4, 5, 6, 7, 8, 9, 10, 11] rfl rfl rfl rfl (by decide) dX12_needsThought_9 (fun r w1 H locs hq hw => ?_)
    obtain ⟨rfl, rfl⟩ := hq
    have hw : kW γ A ((mWa γ z10 z11 z12 z13 z14 z15 z16 z17 z18 z19 z22 z23 a) ++ (mWz γ z z2 z10 z11 z12 z13 z14 z15 z16 z17 z18 z19 z22 z23 z24 z25 z26 z27 z28 z29 z30 z31 z32 z33 z36 z37 z38 z39 z40 z41 z42 z43 z44 z45 z46 z47 z48 z55 z56 z59 z60 z61 n0 n1 n49 n50 n51 n52 n53 n54 n57 n58 n62 n63 g n (F_m_fails g n rs 1))) s H locs := hw
    refine W.eq (g2 := F0 m 12 ls [.int 0]) rfl ?_
    have hE : (F_m_needsThought0 g n rs a) = (0, (F_m_fails g n rs 1)) := by unfold F_m_needsThought0; rw [if_neg c_421]
    have hw : kW γ A ((mWa γ z10 z11 z12 z13 z14 z15 z16 z17 z18 z19 z22 z23 a) ++ (mWz γ z z2 z10 z11 z12 z13 z14 z15 z16 z17 z18 z19 z22 z23 z24 z25 z26 z27 z28 z29 z30 z31 z32 z33 z36 z37 z38 z39 z40 z41 z42 z43 z44 z45 z46 z47 z48 z55 z56 z59 z60 z61 n0 n1 n49 n50 n51 n52 n53 n54 n57 n58 n62 n63 g n ((F_m_needsThought0 g n rs a).2))) s H locs := by first | (rw [hE]; exact hw) | exact hw
    exact k_zret hC hr hlocks rfl hw [12, 13, 0, 1, 2, 3, 4, 5, 6, 7, 8, 9, 10, 11] rfl rfl ⟨by rw [hE], rfl⟩ (by decide) (by decide) dX12_needsThought_12

def F_m_readsLine (g : Nat → Int32) (n : Nat) (rs : mRS) (a : mAS) (li : Nat → Int32) (lw : Nat → Int32) (la : Nat → Int32) (lb : Nat → Int32) : Int32 × mRS × (Nat → Int32) × (Nat → Int32) × (Nat → Int32) × (Nat → Int32) :=
  if (F_m_isWord g n rs 10793234) = 0 then (if (F_m_isWord g n rs 139055) = 0 then (if (F_m_isWord g n rs 326280) = 0 then (0, (F_m_fails g n rs 1), li, lw, la, lb) else (if (li 5) = 40 then (0, (F_m_fails g n rs 5), li, lw, la, lb) else (if (F_m_isKept g n (mv g n rs)) = 0 then (if 0 ≤ (F_m_tenantNamed0 g n (mv g n rs) a) then (if ((F_m_needsThought0 g n (mv g n (mv g n rs)) a).1) = 0 then (0, ((F_m_needsThought0 g n (mv g n (mv g n rs)) a).2), li, (upd lw ((200 + (li 5)) : Int32).toNatClampNeg 2), (upd la ((200 + (li 5)) : Int32).toNatClampNeg (F_m_tenantNamed0 g n (mv g n rs) a)), lb) else (((F_m_closes g n (mv g n ((F_m_needsThought0 g n (mv g n (mv g n rs)) a).2))).1), ((F_m_closes g n (mv g n ((F_m_needsThought0 g n (mv g n (mv g n rs)) a).2))).2), (upd li 5 ((li 5) + 1)), (upd lw ((200 + (li 5)) : Int32).toNatClampNeg 2), (upd la ((200 + (li 5)) : Int32).toNatClampNeg (F_m_tenantNamed0 g n (mv g n rs) a)), (upd lb ((200 + (li 5)) : Int32).toNatClampNeg (((F_m_needsThought0 g n (mv g n (mv g n rs)) a).2).2.2.1)))) else (0, (F_m_fails g n (mv g n rs) 2), li, (upd lw ((200 + (li 5)) : Int32).toNatClampNeg 2), (upd la ((200 + (li 5)) : Int32).toNatClampNeg (F_m_tenantNamed0 g n (mv g n rs) a)), lb)) else (0, (F_m_fails g n (mv g n rs) 1), li, (upd lw ((200 + (li 5)) : Int32).toNatClampNeg 2), la, lb)))) else (if (li 5) = 40 then (0, (F_m_fails g n rs 5), li, lw, la, lb) else (if (F_m_isKept g n (mv g n rs)) = 0 then (if 0 ≤ (F_m_tenantNamed0 g n (mv g n rs) a) then (((F_m_closes g n (mv g n (mv g n rs))).1), ((F_m_closes g n (mv g n (mv g n rs))).2), (upd li 5 ((li 5) + 1)), (upd lw ((200 + (li 5)) : Int32).toNatClampNeg 1), (upd la ((200 + (li 5)) : Int32).toNatClampNeg (F_m_tenantNamed0 g n (mv g n rs) a)), lb) else (0, (F_m_fails g n (mv g n rs) 2), li, (upd lw ((200 + (li 5)) : Int32).toNatClampNeg 1), (upd la ((200 + (li 5)) : Int32).toNatClampNeg (F_m_tenantNamed0 g n (mv g n rs) a)), lb)) else (0, (F_m_fails g n (mv g n rs) 1), li, (upd lw ((200 + (li 5)) : Int32).toNatClampNeg 1), la, lb)))) else (if (li 5) = 40 then (0, (F_m_fails g n rs 5), li, lw, la, lb) else (if (F_m_isKept g n (mv g n rs)) = 0 then (if 0 ≤ (F_m_tenantNamed0 g n (mv g n rs) a) then (if ((F_m_needsThought0 g n (mv g n (mv g n rs)) a).1) = 0 then (0, ((F_m_needsThought0 g n (mv g n (mv g n rs)) a).2), li, (upd lw ((200 + (li 5)) : Int32).toNatClampNeg 0), (upd la ((200 + (li 5)) : Int32).toNatClampNeg (F_m_tenantNamed0 g n (mv g n rs) a)), lb) else (((F_m_closes g n (mv g n ((F_m_needsThought0 g n (mv g n (mv g n rs)) a).2))).1), ((F_m_closes g n (mv g n ((F_m_needsThought0 g n (mv g n (mv g n rs)) a).2))).2), (upd li 5 ((li 5) + 1)), (upd lw ((200 + (li 5)) : Int32).toNatClampNeg 0), (upd la ((200 + (li 5)) : Int32).toNatClampNeg (F_m_tenantNamed0 g n (mv g n rs) a)), (upd lb ((200 + (li 5)) : Int32).toNatClampNeg (((F_m_needsThought0 g n (mv g n (mv g n rs)) a).2).2.2.1)))) else (0, (F_m_fails g n (mv g n rs) 2), li, (upd lw ((200 + (li 5)) : Int32).toNatClampNeg 0), (upd la ((200 + (li 5)) : Int32).toNatClampNeg (F_m_tenantNamed0 g n (mv g n rs) a)), lb)) else (0, (F_m_fails g n (mv g n rs) 1), li, (upd lw ((200 + (li 5)) : Int32).toNatClampNeg 0), la, lb)))
set_option maxHeartbeats 4000000 in
set_option maxRecDepth 100000 in
theorem c_m_readsLine (γ : kΓ) (l : Launch) (z : Nat) (z2 : Nat) (z10 : Nat) (z11 : Nat) (z12 : Nat) (z13 : Nat) (z14 : Nat) (z15 : Nat) (z16 : Nat) (z17 : Nat) (z18 : Nat) (z19 : Nat) (z22 : Nat) (z23 : Nat) (z24 : Nat) (z25 : Nat) (z26 : Nat) (z27 : Nat) (z28 : Nat) (z29 : Nat) (z30 : Nat) (z31 : Nat) (z32 : Nat) (z33 : Nat) (z36 : Nat) (z37 : Nat) (z38 : Nat) (z39 : Nat) (z40 : Nat) (z41 : Nat) (z42 : Nat) (z43 : Nat) (z44 : Nat) (z45 : Nat) (z46 : Nat) (z47 : Nat) (z48 : Nat) (z55 : Nat) (z56 : Nat) (z59 : Nat) (z60 : Nat) (z61 : Nat) (n0 : Int32) (n1 : Int32) (n49 : Int32) (n50 : Int32) (n51 : Int32) (n52 : Int32) (n53 : Int32) (n54 : Int32) (n57 : Int32) (n58 : Int32) (n62 : Int32) (n63 : Int64) (n : Nat) (g : Nat → Int32) (rs : mRS) (a : mAS) (li : Nat → Int32) (lw : Nat → Int32) (la : Nat → Int32) (lb : Nat → Int32) (hn : n ≤ 1000) (hM0 : mO0 a) (hL : 0 ≤ (li 5).toInt ∧ (li 5).toInt ≤ 40) : kM γ l yX12_readsLine cX12_readsLine 3 ((some .boolean)) ({ frames := 3, cells := 0, slots := 0, locals := 81 } : Room) [.ref z] ((mWz γ z z2 z10 z11 z12 z13 z14 z15 z16 z17 z18 z19 z22 z23 z24 z25 z26 z27 z28 z29 z30 z31 z32 z33 z36 z37 z38 z39 z40 z41 z42 z43 z44 z45 z46 z47 z48 z55 z56 z59 z60 z61 n0 n1 n49 n50 n51 n52 n53 n54 n57 n58 n62 n63 g n rs) ++ (mWa γ z10 z11 z12 z13 z14 z15 z16 z17 z18 z19 z22 z23 a) ++ [(z36, .inl (γ.2.1 0, 6, .inl li)), (z37, .inl (γ.2.1 0, 240, .inl lw)), (z38, .inl (γ.2.1 0, 240, .inl la)), (z39, .inl (γ.2.1 0, 240, .inl lb))]) (fun r w1 => r = some (.int ((F_m_readsLine g n rs a li lw la lb).1)) ∧ w1 = ((mWz γ z z2 z10 z11 z12 z13 z14 z15 z16 z17 z18 z19 z22 z23 z24 z25 z26 z27 z28 z29 z30 z31 z32 z33 z36 z37 z38 z39 z40 z41 z42 z43 z44 z45 z46 z47 z48 z55 z56 z59 z60 z61 n0 n1 n49 n50 n51 n52 n53 n54 n57 n58 n62 n63 g n ((F_m_readsLine g n rs a li lw la lb).2.1)) ++ (mWa γ z10 z11 z12 z13 z14 z15 z16 z17 z18 z19 z22 z23 a) ++ [(z36, .inl (γ.2.1 0, 6, .inl ((F_m_readsLine g n rs a li lw la lb).2.2.1))), (z37, .inl (γ.2.1 0, 240, .inl ((F_m_readsLine g n rs a li lw la lb).2.2.2.1))), (z38, .inl (γ.2.1 0, 240, .inl ((F_m_readsLine g n rs a li lw la lb).2.2.2.2.1))), (z39, .inl (γ.2.1 0, 240, .inl ((F_m_readsLine g n rs a li lw la lb).2.2.2.2.2)))])) := by
  refine k_ofW (by decide) (Nat.le_of_ble_eq_true rfl) ?_
  intro p9 e s m below meth c A ls hC hr hlocks hname hw hl
  have hx := hC.1
  have hb := hC.2.1
  have hl : lv_has ls 3 [(0, .ref z)] := hl
  refine lv_aload_n hx hb dX12_readsLine_0 rfl (lv_at hl 0 rfl) ?_
  refine k_ldc2 hC gw_1442 dX12_readsLine_1 ?_
  refine k_V (wr := ((mWa γ z10 z11 z12 z13 z14 z15 z16 z17 z18 z19 z22 z23 a) ++ [(z36, .inl (γ.2.1 0, 6, .inl li)), (z37, .inl (γ.2.1 0, 240, .inl lw)), (z38, .inl (γ.2.1 0, 240, .inl la)), (z39, .inl (γ.2.1 0, 240, .inl lb))])) 1 gw_1413 gw_1415 gp_56 gw_15 gw_1416 hd_X12_isWord hC hw (c_m_isWord γ l z z2 z10 z11 z12 z13 z14 z15 z16 z17 z18 z19 z22 z23 z24 z25 z26 z27 z28 z29 z30 z31 z32 z33 z36 z37 z38 z39 z40 z41 z42 z43 z44 z45 z46 z47 z48 z55 z56 z59 z60 z61 n0 n1 n49 n50 n51 n52 n53 n54 n57 n58 n62 n63 n g rs 10793234 hn) ⟨by decide, by decide⟩ ⟨by decide, by decide⟩ hl.1 rfl 0 rfl rfl rfl (Nat.le_of_ble_eq_true rfl) [0, 1] [2, 3, 4, 5, 6, 7, 8, 9, 10, 11, 12, 13, 14, 15, 16, 17] rfl rfl rfl rfl (by decide) dX12_readsLine_4 (fun r w1 H locs hq hw => ?_)
  obtain ⟨rfl, rfl⟩ := hq
  have hw : kW γ A ((mWa γ z10 z11 z12 z13 z14 z15 z16 z17 z18 z19 z22 z23 a) ++ [(z36, .inl (γ.2.1 0, 6, .inl li)), (z37, .inl (γ.2.1 0, 240, .inl lw)), (z38, .inl (γ.2.1 0, 240, .inl la)), (z39, .inl (γ.2.1 0, 240, .inl lb))] ++ (mWz γ z z2 z10 z11 z12 z13 z14 z15 z16 z17 z18 z19 z22 z23 z24 z25 z26 z27 z28 z29 z30 z31 z32 z33 z36 z37 z38 z39 z40 z41 z42 z43 z44 z45 z46 z47 z48 z55 z56 z59 z60 z61 n0 n1 n49 n50 n51 n52 n53 n54 n57 n58 n62 n63 g n rs)) s H locs := hw
  refine W.eq (g2 := F0 m 7 ls [.int (F_m_isWord g n rs 10793234)]) rfl ?_
  refine lv_if_eq (tgt := 14) hx hb dX12_readsLine_7 (by decide) (fun c_449 => ?_) (fun c_449 => ?_)
  · refine lv_aload_n hx hb dX12_readsLine_14 rfl (lv_at hl 0 rfl) ?_
    refine k_ldc2 hC gw_1443 dX12_readsLine_15 ?_
    refine k_V (wr := ((mWa γ z10 z11 z12 z13 z14 z15 z16 z17 z18 z19 z22 z23 a) ++ [(z36, .inl (γ.2.1 0, 6, .inl li)), (z37, .inl (γ.2.1 0, 240, .inl lw)), (z38, .inl (γ.2.1 0, 240, .inl la)), (z39, .inl (γ.2.1 0, 240, .inl lb))])) 1 gw_1413 gw_1415 gp_56 gw_15 gw_1416 hd_X12_isWord hC hw (c_m_isWord γ l z z2 z10 z11 z12 z13 z14 z15 z16 z17 z18 z19 z22 z23 z24 z25 z26 z27 z28 z29 z30 z31 z32 z33 z36 z37 z38 z39 z40 z41 z42 z43 z44 z45 z46 z47 z48 z55 z56 z59 z60 z61 n0 n1 n49 n50 n51 n52 n53 n54 n57 n58 n62 n63 n g rs 139055 hn) ⟨by decide, by decide⟩ ⟨by decide, by decide⟩ hl.1 rfl 16 rfl rfl rfl (Nat.le_of_ble_eq_true rfl) [16, 17] [0, 1, 2, 3, 4, 5, 6, 7, 8, 9, 10, 11, 12, 13, 14, 15] rfl rfl rfl rfl (by decide) dX12_readsLine_18 (fun r w1 H locs hq hw => ?_)
    obtain ⟨rfl, rfl⟩ := hq
    have hw : kW γ A ((mWa γ z10 z11 z12 z13 z14 z15 z16 z17 z18 z19 z22 z23 a) ++ [(z36, .inl (γ.2.1 0, 6, .inl li)), (z37, .inl (γ.2.1 0, 240, .inl lw)), (z38, .inl (γ.2.1 0, 240, .inl la)), (z39, .inl (γ.2.1 0, 240, .inl lb))] ++ (mWz γ z z2 z10 z11 z12 z13 z14 z15 z16 z17 z18 z19 z22 z23 z24 z25 z26 z27 z28 z29 z30 z31 z32 z33 z36 z37 z38 z39 z40 z41 z42 z43 z44 z45 z46 z47 z48 z55 z56 z59 z60 z61 n0 n1 n49 n50 n51 n52 n53 n54 n57 n58 n62 n63 g n rs)) s H locs := hw
    refine W.eq (g2 := F0 m 21 ls [.int (F_m_isWord g n rs 139055)]) rfl ?_
    refine lv_if_eq (tgt := 28) hx hb dX12_readsLine_21 (by decide) (fun c_450 => ?_) (fun c_450 => ?_)
    · refine lv_aload_n hx hb dX12_readsLine_28 rfl (lv_at hl 0 rfl) ?_
      refine k_ldc2 hC gw_1444 dX12_readsLine_29 ?_
      refine k_V (wr := ((mWa γ z10 z11 z12 z13 z14 z15 z16 z17 z18 z19 z22 z23 a) ++ [(z36, .inl (γ.2.1 0, 6, .inl li)), (z37, .inl (γ.2.1 0, 240, .inl lw)), (z38, .inl (γ.2.1 0, 240, .inl la)), (z39, .inl (γ.2.1 0, 240, .inl lb))])) 1 gw_1413 gw_1415 gp_56 gw_15 gw_1416 hd_X12_isWord hC hw (c_m_isWord γ l z z2 z10 z11 z12 z13 z14 z15 z16 z17 z18 z19 z22 z23 z24 z25 z26 z27 z28 z29 z30 z31 z32 z33 z36 z37 z38 z39 z40 z41 z42 z43 z44 z45 z46 z47 z48 z55 z56 z59 z60 z61 n0 n1 n49 n50 n51 n52 n53 n54 n57 n58 n62 n63 n g rs 326280 hn) ⟨by decide, by decide⟩ ⟨by decide, by decide⟩ hl.1 rfl 16 rfl rfl rfl (Nat.le_of_ble_eq_true rfl) [16, 17] [0, 1, 2, 3, 4, 5, 6, 7, 8, 9, 10, 11, 12, 13, 14, 15] rfl rfl rfl rfl (by decide) dX12_readsLine_32 (fun r w1 H locs hq hw => ?_)
      obtain ⟨rfl, rfl⟩ := hq
      have hw : kW γ A ((mWa γ z10 z11 z12 z13 z14 z15 z16 z17 z18 z19 z22 z23 a) ++ [(z36, .inl (γ.2.1 0, 6, .inl li)), (z37, .inl (γ.2.1 0, 240, .inl lw)), (z38, .inl (γ.2.1 0, 240, .inl la)), (z39, .inl (γ.2.1 0, 240, .inl lb))] ++ (mWz γ z z2 z10 z11 z12 z13 z14 z15 z16 z17 z18 z19 z22 z23 z24 z25 z26 z27 z28 z29 z30 z31 z32 z33 z36 z37 z38 z39 z40 z41 z42 z43 z44 z45 z46 z47 z48 z55 z56 z59 z60 z61 n0 n1 n49 n50 n51 n52 n53 n54 n57 n58 n62 n63 g n rs)) s H locs := hw
      refine W.eq (g2 := F0 m 35 ls [.int (F_m_isWord g n rs 326280)]) rfl ?_
      refine lv_if_eq (tgt := 42) hx hb dX12_readsLine_35 (by decide) (fun c_451 => ?_) (fun c_451 => ?_)
      · refine lv_iconst (v := (-1)) hx hb dX12_readsLine_42 (by decide) ?_
        refine lv_istore_n (lv' := [(1, .int (-1)), (0, .ref z)]) hx hb dX12_readsLine_43 rfl hl (by decide) rfl (fun ls hl => ?_)
        refine lv_iload_n hx hb dX12_readsLine_44 rfl (lv_at hl 0 rfl) ?_
        refine lv_if_ge (tgt := 54) hx hb dX12_readsLine_45 (by decide) (fun h => absurd h (by decide)) (fun _ => ?_)
        refine lv_aload_n hx hb dX12_readsLine_48 rfl (lv_at hl 1 rfl) ?_
        refine lv_iconst (v := 1) hx hb dX12_readsLine_49 (by decide) ?_
        refine k_V (wr := ((mWa γ z10 z11 z12 z13 z14 z15 z16 z17 z18 z19 z22 z23 a) ++ [(z36, .inl (γ.2.1 0, 6, .inl li)), (z37, .inl (γ.2.1 0, 240, .inl lw)), (z38, .inl (γ.2.1 0, 240, .inl la)), (z39, .inl (γ.2.1 0, 240, .inl lb))])) 1 gw_1421 gw_1423 gp_58 gw_15 gw_1424 hd_X12_fails hC hw (c_m_fails γ l z z2 z10 z11 z12 z13 z14 z15 z16 z17 z18 z19 z22 z23 z24 z25 z26 z27 z28 z29 z30 z31 z32 z33 z36 z37 z38 z39 z40 z41 z42 z43 z44 z45 z46 z47 z48 z55 z56 z59 z60 z61 n0 n1 n49 n50 n51 n52 n53 n54 n57 n58 n62 n63 n g rs 1 hn) ⟨by decide, by decide⟩ ⟨by decide, by decide⟩ hl.1 rfl 16 rfl rfl rfl (Nat.le_of_ble_eq_true rfl) [16, 17] [0, 1, 2, 3, 4, 5, 6, 7, 8, 9, 10, 11, 12, 13, 14, 15] rfl rfl rfl rfl (by decide) dX12_readsLine_50 (fun r w1 H locs hq hw => ?_)
        obtain ⟨rfl, rfl⟩ := hq
        have hw : kW γ A ((mWa γ z10 z11 z12 z13 z14 z15 z16 z17 z18 z19 z22 z23 a) ++ [(z36, .inl (γ.2.1 0, 6, .inl li)), (z37, .inl (γ.2.1 0, 240, .inl lw)), (z38, .inl (γ.2.1 0, 240, .inl la)), (z39, .inl (γ.2.1 0, 240, .inl lb))] ++ (mWz γ z z2 z10 z11 z12 z13 z14 z15 z16 z17 z18 z19 z22 z23 z24 z25 z26 z27 z28 z29 z30 z31 z32 z33 z36 z37 z38 z39 z40 z41 z42 z43 z44 z45 z46 z47 z48 z55 z56 z59 z60 z61 n0 n1 n49 n50 n51 n52 n53 n54 n57 n58 n62 n63 g n (F_m_fails g n rs 1))) s H locs := hw
        refine W.eq (g2 := F0 m 53 ls [.int 0]) rfl ?_
        have hE : (F_m_readsLine g n rs a li lw la lb) = (0, (F_m_fails g n rs 1), li, lw, la, lb) := by unfold F_m_readsLine; rw [if_pos c_449, if_pos c_450, if_pos c_451]
        have hw : kW γ A ((mWa γ z10 z11 z12 z13 z14 z15 z16 z17 z18 z19 z22 z23 a) ++ [(z36, .inl (γ.2.1 0, 6, .inl ((F_m_readsLine g n rs a li lw la lb).2.2.1))), (z37, .inl (γ.2.1 0, 240, .inl ((F_m_readsLine g n rs a li lw la lb).2.2.2.1))), (z38, .inl (γ.2.1 0, 240, .inl ((F_m_readsLine g n rs a li lw la lb).2.2.2.2.1))), (z39, .inl (γ.2.1 0, 240, .inl ((F_m_readsLine g n rs a li lw la lb).2.2.2.2.2)))] ++ (mWz γ z z2 z10 z11 z12 z13 z14 z15 z16 z17 z18 z19 z22 z23 z24 z25 z26 z27 z28 z29 z30 z31 z32 z33 z36 z37 z38 z39 z40 z41 z42 z43 z44 z45 z46 z47 z48 z55 z56 z59 z60 z61 n0 n1 n49 n50 n51 n52 n53 n54 n57 n58 n62 n63 g n ((F_m_readsLine g n rs a li lw la lb).2.1))) s H locs := by first | (rw [hE]; exact hw) | exact hw
        exact k_zret hC hr hlocks rfl hw [16, 17, 0, 1, 2, 3, 4, 5, 6, 7, 8, 9, 10, 11, 12, 13, 14, 15] rfl rfl ⟨by rw [hE], rfl⟩ (by decide) (by decide) dX12_readsLine_53
      · refine lv_iconst (v := 2) hx hb dX12_readsLine_38 (by decide) ?_
        refine lv_goto (tgt := 43) hx hb dX12_readsLine_39 (by decide) ?_
        refine lv_istore_n (lv' := [(1, .int 2), (0, .ref z)]) hx hb dX12_readsLine_43 rfl hl (by decide) rfl (fun ls hl => ?_)
        refine lv_iload_n hx hb dX12_readsLine_44 rfl (lv_at hl 0 rfl) ?_
        refine lv_if_ge (tgt := 54) hx hb dX12_readsLine_45 (by decide) (fun _ => ?_) (fun h => absurd (by decide) h)
        refine lv_aload_n hx hb dX12_readsLine_54 rfl (lv_at hl 1 rfl) ?_
        refine fg_RX12_81 hC hw 16 rfl rfl dX12_readsLine_55 ?_
        refine lv_iconst (v := 5) hx hb dX12_readsLine_58 (by decide) ?_
        refine k_iald hC hw 12 rfl (k_in0 (by decide)) dX12_readsLine_59 ?_
        refine lv_topi (fun x_452 ex_452 => ?_)
        obtain rfl : x_452 = (li 5) := ex_452
        refine lv_bipush (v := 40) hx hb dX12_readsLine_60 (by decide) ?_
        refine lv_icmp_ne (tgt := 71) hx hb dX12_readsLine_62 (by decide) (fun c_453 => ?_) (fun c_453 => ?_)
        · refine lv_aload_n hx hb dX12_readsLine_71 rfl (lv_at hl 1 rfl) ?_
          refine k_V (wr := ((mWa γ z10 z11 z12 z13 z14 z15 z16 z17 z18 z19 z22 z23 a) ++ [(z36, .inl (γ.2.1 0, 6, .inl li)), (z37, .inl (γ.2.1 0, 240, .inl lw)), (z38, .inl (γ.2.1 0, 240, .inl la)), (z39, .inl (γ.2.1 0, 240, .inl lb))])) 0 gw_1402 gw_1404 gp_54 gw_15 gw_1405 hd_X12_nextToken hC hw (c_mv γ l z z2 z10 z11 z12 z13 z14 z15 z16 z17 z18 z19 z22 z23 z24 z25 z26 z27 z28 z29 z30 z31 z32 z33 z36 z37 z38 z39 z40 z41 z42 z43 z44 z45 z46 z47 z48 z55 z56 z59 z60 z61 n0 n1 n49 n50 n51 n52 n53 n54 n57 n58 n62 n63 n g rs hn) ⟨by decide, by decide⟩ ⟨by decide, by decide⟩ hl.1 rfl 16 rfl rfl rfl (Nat.le_of_ble_eq_true rfl) [16, 17] [0, 1, 2, 3, 4, 5, 6, 7, 8, 9, 10, 11, 12, 13, 14, 15] rfl rfl rfl rfl (by decide) dX12_readsLine_72 (fun r w1 H locs hq hw => ?_)
          obtain ⟨rfl, rfl⟩ := hq
          have hw : kW γ A ((mWa γ z10 z11 z12 z13 z14 z15 z16 z17 z18 z19 z22 z23 a) ++ [(z36, .inl (γ.2.1 0, 6, .inl li)), (z37, .inl (γ.2.1 0, 240, .inl lw)), (z38, .inl (γ.2.1 0, 240, .inl la)), (z39, .inl (γ.2.1 0, 240, .inl lb))] ++ (mWz γ z z2 z10 z11 z12 z13 z14 z15 z16 z17 z18 z19 z22 z23 z24 z25 z26 z27 z28 z29 z30 z31 z32 z33 z36 z37 z38 z39 z40 z41 z42 z43 z44 z45 z46 z47 z48 z55 z56 z59 z60 z61 n0 n1 n49 n50 n51 n52 n53 n54 n57 n58 n62 n63 g n (mv g n rs))) s H locs := hw
          refine W.eq (g2 := F0 m 75 ls []) rfl ?_
          refine lv_sipush (v := 200) hx hb dX12_readsLine_75 (by decide) ?_
          refine lv_aload_n hx hb dX12_readsLine_78 rfl (lv_at hl 1 rfl) ?_
          refine fg_RX12_81 hC hw 16 rfl rfl dX12_readsLine_79 ?_
          refine lv_iconst (v := 5) hx hb dX12_readsLine_82 (by decide) ?_
          refine k_iald hC hw 12 rfl (k_in0 (by decide)) dX12_readsLine_83 ?_
          refine lv_topi (fun x_454 ex_454 => ?_)
          obtain rfl : x_454 = (li 5) := ex_454
          refine lv_iadd hx hb dX12_readsLine_84 ?_
          refine lv_istore_n (lv' := [(2, .int (200 + (li 5))), (1, .int 2), (0, .ref z)]) hx hb dX12_readsLine_85 rfl hl (by decide) rfl (fun ls hl => ?_)
          refine lv_aload_n hx hb dX12_readsLine_86 rfl (lv_at hl 2 rfl) ?_
          refine fg_RX12_84 hC hw 16 rfl rfl dX12_readsLine_87 ?_
          refine lv_iload_n hx hb dX12_readsLine_90 rfl (lv_at hl 0 rfl) ?_
          refine lv_iload_n hx hb dX12_readsLine_91 rfl (lv_at hl 1 rfl) ?_
          refine k_iast hC hw 13 rfl (in240 hL.1 hL.2 c_453) dX12_readsLine_92 (fun H locs hw => ?_)
          have hw : kW γ A ((mWa γ z10 z11 z12 z13 z14 z15 z16 z17 z18 z19 z22 z23 a) ++ [(z36, .inl (γ.2.1 0, 6, .inl li)), (z37, .inl (γ.2.1 0, 240, .inl (upd lw ((200 + (li 5)) : Int32).toNatClampNeg 2))), (z38, .inl (γ.2.1 0, 240, .inl la)), (z39, .inl (γ.2.1 0, 240, .inl lb))] ++ (mWz γ z z2 z10 z11 z12 z13 z14 z15 z16 z17 z18 z19 z22 z23 z24 z25 z26 z27 z28 z29 z30 z31 z32 z33 z36 z37 z38 z39 z40 z41 z42 z43 z44 z45 z46 z47 z48 z55 z56 z59 z60 z61 n0 n1 n49 n50 n51 n52 n53 n54 n57 n58 n62 n63 g n (mv g n rs))) s H locs := hw
          refine lv_aload_n hx hb dX12_readsLine_93 rfl (lv_at hl 2 rfl) ?_
          refine k_V (wr := ((mWa γ z10 z11 z12 z13 z14 z15 z16 z17 z18 z19 z22 z23 a) ++ [(z36, .inl (γ.2.1 0, 6, .inl li)), (z37, .inl (γ.2.1 0, 240, .inl (upd lw ((200 + (li 5)) : Int32).toNatClampNeg 2))), (z38, .inl (γ.2.1 0, 240, .inl la)), (z39, .inl (γ.2.1 0, 240, .inl lb))])) 0 gw_1429 gw_1431 gp_60 gw_15 gw_1432 hd_X12_isKept hC hw (c_m_isKept γ l z z2 z10 z11 z12 z13 z14 z15 z16 z17 z18 z19 z22 z23 z24 z25 z26 z27 z28 z29 z30 z31 z32 z33 z36 z37 z38 z39 z40 z41 z42 z43 z44 z45 z46 z47 z48 z55 z56 z59 z60 z61 n0 n1 n49 n50 n51 n52 n53 n54 n57 n58 n62 n63 n g (mv g n rs) hn) ⟨by decide, by decide⟩ ⟨by decide, by decide⟩ hl.1 rfl 16 rfl rfl rfl (Nat.le_of_ble_eq_true rfl) [16, 17] [0, 1, 2, 3, 4, 5, 6, 7, 8, 9, 10, 11, 12, 13, 14, 15] rfl rfl rfl rfl (by decide) dX12_readsLine_94 (fun r w1 H locs hq hw => ?_)
          obtain ⟨rfl, rfl⟩ := hq
          have hw : kW γ A ((mWa γ z10 z11 z12 z13 z14 z15 z16 z17 z18 z19 z22 z23 a) ++ [(z36, .inl (γ.2.1 0, 6, .inl li)), (z37, .inl (γ.2.1 0, 240, .inl (upd lw ((200 + (li 5)) : Int32).toNatClampNeg 2))), (z38, .inl (γ.2.1 0, 240, .inl la)), (z39, .inl (γ.2.1 0, 240, .inl lb))] ++ (mWz γ z z2 z10 z11 z12 z13 z14 z15 z16 z17 z18 z19 z22 z23 z24 z25 z26 z27 z28 z29 z30 z31 z32 z33 z36 z37 z38 z39 z40 z41 z42 z43 z44 z45 z46 z47 z48 z55 z56 z59 z60 z61 n0 n1 n49 n50 n51 n52 n53 n54 n57 n58 n62 n63 g n (mv g n rs))) s H locs := hw
          refine W.eq (g2 := F0 m 97 ls [.int (F_m_isKept g n (mv g n rs))]) rfl ?_
          refine lv_if_eq (tgt := 106) hx hb dX12_readsLine_97 (by decide) (fun c_455 => ?_) (fun c_455 => ?_)
          · refine lv_aload_n hx hb dX12_readsLine_106 rfl (lv_at hl 2 rfl) ?_
            refine fg_RX12_87 hC hw 16 rfl rfl dX12_readsLine_107 ?_
            refine lv_iload_n hx hb dX12_readsLine_110 rfl (lv_at hl 0 rfl) ?_
            refine lv_aload_n hx hb dX12_readsLine_111 rfl (lv_at hl 2 rfl) ?_
            refine lv_iconst (v := 0) hx hb dX12_readsLine_112 (by decide) ?_
            refine k_V (wr := [(z36, .inl (γ.2.1 0, 6, .inl li)), (z37, .inl (γ.2.1 0, 240, .inl (upd lw ((200 + (li 5)) : Int32).toNatClampNeg 2))), (z38, .inl (γ.2.1 0, 240, .inl la)), (z39, .inl (γ.2.1 0, 240, .inl lb))]) 1 gw_1456 gw_1458 gp_62 gw_15 gw_1459 hd_X12_tenantNamed hC hw (c_m_tenantNamed0 γ l z z2 z10 z11 z12 z13 z14 z15 z16 z17 z18 z19 z22 z23 z24 z25 z26 z27 z28 z29 z30 z31 z32 z33 z36 z37 z38 z39 z40 z41 z42 z43 z44 z45 z46 z47 z48 z55 z56 z59 z60 z61 n0 n1 n49 n50 n51 n52 n53 n54 n57 n58 n62 n63 n g (mv g n rs) a hn hM0.2.1 hM0.2.2) ⟨by decide, by decide⟩ ⟨by decide, by decide⟩ hl.1 rfl 16 rfl rfl rfl (Nat.le_of_ble_eq_true rfl) [16, 17, 0, 1, 2, 3, 4, 5, 6, 7, 8, 9, 10, 11] [12, 13, 14, 15] rfl rfl rfl rfl (by decide) dX12_readsLine_113 (fun r w1 H locs hq hw => ?_)
            obtain ⟨rfl, rfl⟩ := hq
            have hw : kW γ A ([(z36, .inl (γ.2.1 0, 6, .inl li)), (z37, .inl (γ.2.1 0, 240, .inl (upd lw ((200 + (li 5)) : Int32).toNatClampNeg 2))), (z38, .inl (γ.2.1 0, 240, .inl la)), (z39, .inl (γ.2.1 0, 240, .inl lb))] ++ (mWz γ z z2 z10 z11 z12 z13 z14 z15 z16 z17 z18 z19 z22 z23 z24 z25 z26 z27 z28 z29 z30 z31 z32 z33 z36 z37 z38 z39 z40 z41 z42 z43 z44 z45 z46 z47 z48 z55 z56 z59 z60 z61 n0 n1 n49 n50 n51 n52 n53 n54 n57 n58 n62 n63 g n (mv g n rs)) ++ (mWa γ z10 z11 z12 z13 z14 z15 z16 z17 z18 z19 z22 z23 a)) s H locs := hw
            refine W.eq (g2 := F0 m 116 ls [.int (F_m_tenantNamed0 g n (mv g n rs) a), .int (200 + (li 5)), .ref z38]) rfl ?_
            refine k_iast hC hw 2 rfl (in240 hL.1 hL.2 c_453) dX12_readsLine_116 (fun H locs hw => ?_)
            have hw : kW γ A ([(z36, .inl (γ.2.1 0, 6, .inl li)), (z37, .inl (γ.2.1 0, 240, .inl (upd lw ((200 + (li 5)) : Int32).toNatClampNeg 2))), (z38, .inl (γ.2.1 0, 240, .inl (upd la ((200 + (li 5)) : Int32).toNatClampNeg (F_m_tenantNamed0 g n (mv g n rs) a)))), (z39, .inl (γ.2.1 0, 240, .inl lb))] ++ (mWz γ z z2 z10 z11 z12 z13 z14 z15 z16 z17 z18 z19 z22 z23 z24 z25 z26 z27 z28 z29 z30 z31 z32 z33 z36 z37 z38 z39 z40 z41 z42 z43 z44 z45 z46 z47 z48 z55 z56 z59 z60 z61 n0 n1 n49 n50 n51 n52 n53 n54 n57 n58 n62 n63 g n (mv g n rs)) ++ (mWa γ z10 z11 z12 z13 z14 z15 z16 z17 z18 z19 z22 z23 a)) s H locs := hw
            refine lv_aload_n hx hb dX12_readsLine_117 rfl (lv_at hl 2 rfl) ?_
            refine fg_RX12_87 hC hw 4 rfl rfl dX12_readsLine_118 ?_
            refine lv_iload_n hx hb dX12_readsLine_121 rfl (lv_at hl 0 rfl) ?_
            refine k_iald hC hw 2 rfl (in240 hL.1 hL.2 c_453) dX12_readsLine_122 ?_
            refine lv_topi (fun x_456 ex_456 => ?_)
            obtain rfl : x_456 = (F_m_tenantNamed0 g n (mv g n rs) a) := ex_456.trans (if_pos rfl)
            refine lv_if_ge (tgt := 132) hx hb dX12_readsLine_123 (by decide) (fun c_457 => ?_) (fun c_457 => ?_)
            · refine lv_aload_n hx hb dX12_readsLine_132 rfl (lv_at hl 2 rfl) ?_
              refine k_V (wr := ([(z36, .inl (γ.2.1 0, 6, .inl li)), (z37, .inl (γ.2.1 0, 240, .inl (upd lw ((200 + (li 5)) : Int32).toNatClampNeg 2))), (z38, .inl (γ.2.1 0, 240, .inl (upd la ((200 + (li 5)) : Int32).toNatClampNeg (F_m_tenantNamed0 g n (mv g n rs) a)))), (z39, .inl (γ.2.1 0, 240, .inl lb))] ++ (mWa γ z10 z11 z12 z13 z14 z15 z16 z17 z18 z19 z22 z23 a))) 0 gw_1402 gw_1404 gp_54 gw_15 gw_1405 hd_X12_nextToken hC hw (c_mv γ l z z2 z10 z11 z12 z13 z14 z15 z16 z17 z18 z19 z22 z23 z24 z25 z26 z27 z28 z29 z30 z31 z32 z33 z36 z37 z38 z39 z40 z41 z42 z43 z44 z45 z46 z47 z48 z55 z56 z59 z60 z61 n0 n1 n49 n50 n51 n52 n53 n54 n57 n58 n62 n63 n g (mv g n rs) hn) ⟨by decide, by decide⟩ ⟨by decide, by decide⟩ hl.1 rfl 4 rfl rfl rfl (Nat.le_of_ble_eq_true rfl) [4, 5] [0, 1, 2, 3, 6, 7, 8, 9, 10, 11, 12, 13, 14, 15, 16, 17] rfl rfl rfl rfl (by decide) dX12_readsLine_133 (fun r w1 H locs hq hw => ?_)
              obtain ⟨rfl, rfl⟩ := hq
              have hw : kW γ A ([(z36, .inl (γ.2.1 0, 6, .inl li)), (z37, .inl (γ.2.1 0, 240, .inl (upd lw ((200 + (li 5)) : Int32).toNatClampNeg 2))), (z38, .inl (γ.2.1 0, 240, .inl (upd la ((200 + (li 5)) : Int32).toNatClampNeg (F_m_tenantNamed0 g n (mv g n rs) a)))), (z39, .inl (γ.2.1 0, 240, .inl lb))] ++ (mWa γ z10 z11 z12 z13 z14 z15 z16 z17 z18 z19 z22 z23 a) ++ (mWz γ z z2 z10 z11 z12 z13 z14 z15 z16 z17 z18 z19 z22 z23 z24 z25 z26 z27 z28 z29 z30 z31 z32 z33 z36 z37 z38 z39 z40 z41 z42 z43 z44 z45 z46 z47 z48 z55 z56 z59 z60 z61 n0 n1 n49 n50 n51 n52 n53 n54 n57 n58 n62 n63 g n (mv g n (mv g n rs)))) s H locs := hw
              refine W.eq (g2 := F0 m 136 ls []) rfl ?_
              refine lv_iload_n hx hb dX12_readsLine_136 rfl (lv_at hl 1 rfl) ?_
              refine lv_iconst (v := 1) hx hb dX12_readsLine_137 (by decide) ?_
              refine lv_icmp_eq (tgt := 165) hx hb dX12_readsLine_138 (by decide) (fun h => absurd h (by decide)) (fun _ => ?_)
              refine lv_aload_n hx hb dX12_readsLine_141 rfl (lv_at hl 2 rfl) ?_
              refine lv_iconst (v := 0) hx hb dX12_readsLine_142 (by decide) ?_
              refine k_V (wr := [(z36, .inl (γ.2.1 0, 6, .inl li)), (z37, .inl (γ.2.1 0, 240, .inl (upd lw ((200 + (li 5)) : Int32).toNatClampNeg 2))), (z38, .inl (γ.2.1 0, 240, .inl (upd la ((200 + (li 5)) : Int32).toNatClampNeg (F_m_tenantNamed0 g n (mv g n rs) a)))), (z39, .inl (γ.2.1 0, 240, .inl lb))]) 1 gw_1483 gw_1485 gp_68 gw_15 gw_1486 hd_X12_needsThought hC hw (c_m_needsThought0 γ l z z2 z10 z11 z12 z13 z14 z15 z16 z17 z18 z19 z22 z23 z24 z25 z26 z27 z28 z29 z30 z31 z32 z33 z36 z37 z38 z39 z40 z41 z42 z43 z44 z45 z46 z47 z48 z55 z56 z59 z60 z61 n0 n1 n49 n50 n51 n52 n53 n54 n57 n58 n62 n63 n g (mv g n (mv g n rs)) a hn hM0) ⟨by decide, by decide⟩ ⟨by decide, by decide⟩ hl.1 rfl 16 rfl rfl rfl (Nat.le_of_ble_eq_true rfl) [16, 17, 4, 5, 6, 7, 8, 9, 10, 11, 12, 13, 14, 15] [0, 1, 2, 3] rfl rfl rfl rfl (by decide) dX12_readsLine_143 (fun r w1 H locs hq hw => ?_)
              obtain ⟨rfl, rfl⟩ := hq
              have hw : kW γ A ([(z36, .inl (γ.2.1 0, 6, .inl li)), (z37, .inl (γ.2.1 0, 240, .inl (upd lw ((200 + (li 5)) : Int32).toNatClampNeg 2))), (z38, .inl (γ.2.1 0, 240, .inl (upd la ((200 + (li 5)) : Int32).toNatClampNeg (F_m_tenantNamed0 g n (mv g n rs) a)))), (z39, .inl (γ.2.1 0, 240, .inl lb))] ++ (mWz γ z z2 z10 z11 z12 z13 z14 z15 z16 z17 z18 z19 z22 z23 z24 z25 z26 z27 z28 z29 z30 z31 z32 z33 z36 z37 z38 z39 z40 z41 z42 z43 z44 z45 z46 z47 z48 z55 z56 z59 z60 z61 n0 n1 n49 n50 n51 n52 n53 n54 n57 n58 n62 n63 g n ((F_m_needsThought0 g n (mv g n (mv g n rs)) a).2)) ++ (mWa γ z10 z11 z12 z13 z14 z15 z16 z17 z18 z19 z22 z23 a)) s H locs := hw
              refine W.eq (g2 := F0 m 146 ls [.int ((F_m_needsThought0 g n (mv g n (mv g n rs)) a).1)]) rfl ?_
              refine lv_if_ne (tgt := 151) hx hb dX12_readsLine_146 (by decide) (fun c_458 => ?_) (fun c_458 => ?_)
              · refine lv_aload_n hx hb dX12_readsLine_151 rfl (lv_at hl 2 rfl) ?_
                refine fg_RX12_90 hC hw 4 rfl rfl dX12_readsLine_152 ?_
                refine lv_iload_n hx hb dX12_readsLine_155 rfl (lv_at hl 0 rfl) ?_
                refine lv_aload_n hx hb dX12_readsLine_156 rfl (lv_at hl 2 rfl) ?_
                refine fg_RX12_266 hC hw 4 rfl rfl dX12_readsLine_157 ?_
                refine k_iast hC hw 3 rfl (in240 hL.1 hL.2 c_453) dX12_readsLine_160 (fun H locs hw => ?_)
                have hw : kW γ A ([(z36, .inl (γ.2.1 0, 6, .inl li)), (z37, .inl (γ.2.1 0, 240, .inl (upd lw ((200 + (li 5)) : Int32).toNatClampNeg 2))), (z38, .inl (γ.2.1 0, 240, .inl (upd la ((200 + (li 5)) : Int32).toNatClampNeg (F_m_tenantNamed0 g n (mv g n rs) a)))), (z39, .inl (γ.2.1 0, 240, .inl (upd lb ((200 + (li 5)) : Int32).toNatClampNeg (((F_m_needsThought0 g n (mv g n (mv g n rs)) a).2).2.2.1))))] ++ (mWz γ z z2 z10 z11 z12 z13 z14 z15 z16 z17 z18 z19 z22 z23 z24 z25 z26 z27 z28 z29 z30 z31 z32 z33 z36 z37 z38 z39 z40 z41 z42 z43 z44 z45 z46 z47 z48 z55 z56 z59 z60 z61 n0 n1 n49 n50 n51 n52 n53 n54 n57 n58 n62 n63 g n ((F_m_needsThought0 g n (mv g n (mv g n rs)) a).2)) ++ (mWa γ z10 z11 z12 z13 z14 z15 z16 z17 z18 z19 z22 z23 a)) s H locs := hw
                refine lv_aload_n hx hb dX12_readsLine_161 rfl (lv_at hl 2 rfl) ?_
                refine k_V (wr := ([(z36, .inl (γ.2.1 0, 6, .inl li)), (z37, .inl (γ.2.1 0, 240, .inl (upd lw ((200 + (li 5)) : Int32).toNatClampNeg 2))), (z38, .inl (γ.2.1 0, 240, .inl (upd la ((200 + (li 5)) : Int32).toNatClampNeg (F_m_tenantNamed0 g n (mv g n rs) a)))), (z39, .inl (γ.2.1 0, 240, .inl (upd lb ((200 + (li 5)) : Int32).toNatClampNeg (((F_m_needsThought0 g n (mv g n (mv g n rs)) a).2).2.2.1))))] ++ (mWa γ z10 z11 z12 z13 z14 z15 z16 z17 z18 z19 z22 z23 a))) 0 gw_1402 gw_1404 gp_54 gw_15 gw_1405 hd_X12_nextToken hC hw (c_mv γ l z z2 z10 z11 z12 z13 z14 z15 z16 z17 z18 z19 z22 z23 z24 z25 z26 z27 z28 z29 z30 z31 z32 z33 z36 z37 z38 z39 z40 z41 z42 z43 z44 z45 z46 z47 z48 z55 z56 z59 z60 z61 n0 n1 n49 n50 n51 n52 n53 n54 n57 n58 n62 n63 n g ((F_m_needsThought0 g n (mv g n (mv g n rs)) a).2) hn) ⟨by decide, by decide⟩ ⟨by decide, by decide⟩ hl.1 rfl 4 rfl rfl rfl (Nat.le_of_ble_eq_true rfl) [4, 5] [0, 1, 2, 3, 6, 7, 8, 9, 10, 11, 12, 13, 14, 15, 16, 17] rfl rfl rfl rfl (by decide) dX12_readsLine_162 (fun r w1 H locs hq hw => ?_)
                obtain ⟨rfl, rfl⟩ := hq
                have hw : kW γ A ([(z36, .inl (γ.2.1 0, 6, .inl li)), (z37, .inl (γ.2.1 0, 240, .inl (upd lw ((200 + (li 5)) : Int32).toNatClampNeg 2))), (z38, .inl (γ.2.1 0, 240, .inl (upd la ((200 + (li 5)) : Int32).toNatClampNeg (F_m_tenantNamed0 g n (mv g n rs) a)))), (z39, .inl (γ.2.1 0, 240, .inl (upd lb ((200 + (li 5)) : Int32).toNatClampNeg (((F_m_needsThought0 g n (mv g n (mv g n rs)) a).2).2.2.1))))] ++ (mWa γ z10 z11 z12 z13 z14 z15 z16 z17 z18 z19 z22 z23 a) ++ (mWz γ z z2 z10 z11 z12 z13 z14 z15 z16 z17 z18 z19 z22 z23 z24 z25 z26 z27 z28 z29 z30 z31 z32 z33 z36 z37 z38 z39 z40 z41 z42 z43 z44 z45 z46 z47 z48 z55 z56 z59 z60 z61 n0 n1 n49 n50 n51 n52 n53 n54 n57 n58 n62 n63 g n (mv g n ((F_m_needsThought0 g n (mv g n (mv g n rs)) a).2)))) s H locs := hw
                refine W.eq (g2 := F0 m 165 ls []) rfl ?_
                refine lv_aload_n hx hb dX12_readsLine_165 rfl (lv_at hl 2 rfl) ?_
                refine fg_RX12_81 hC hw 16 rfl rfl dX12_readsLine_166 ?_
                refine lv_iconst (v := 5) hx hb dX12_readsLine_169 (by decide) ?_
                refine lv_dup2_11 hx hb dX12_readsLine_170 rfl rfl ?_
                refine k_iald hC hw 0 rfl (k_in0 (by decide)) dX12_readsLine_171 ?_
                refine lv_topi (fun x_459 ex_459 => ?_)
                obtain rfl : x_459 = (li 5) := ex_459
                refine lv_iconst (v := 1) hx hb dX12_readsLine_172 (by decide) ?_
                refine lv_iadd hx hb dX12_readsLine_173 ?_
                refine k_iast hC hw 0 rfl (k_in0 (by decide)) dX12_readsLine_174 (fun H locs hw => ?_)
                have hw : kW γ A ([(z36, .inl (γ.2.1 0, 6, .inl (upd li 5 ((li 5) + 1)))), (z37, .inl (γ.2.1 0, 240, .inl (upd lw ((200 + (li 5)) : Int32).toNatClampNeg 2))), (z38, .inl (γ.2.1 0, 240, .inl (upd la ((200 + (li 5)) : Int32).toNatClampNeg (F_m_tenantNamed0 g n (mv g n rs) a)))), (z39, .inl (γ.2.1 0, 240, .inl (upd lb ((200 + (li 5)) : Int32).toNatClampNeg (((F_m_needsThought0 g n (mv g n (mv g n rs)) a).2).2.2.1))))] ++ (mWa γ z10 z11 z12 z13 z14 z15 z16 z17 z18 z19 z22 z23 a) ++ (mWz γ z z2 z10 z11 z12 z13 z14 z15 z16 z17 z18 z19 z22 z23 z24 z25 z26 z27 z28 z29 z30 z31 z32 z33 z36 z37 z38 z39 z40 z41 z42 z43 z44 z45 z46 z47 z48 z55 z56 z59 z60 z61 n0 n1 n49 n50 n51 n52 n53 n54 n57 n58 n62 n63 g n (mv g n ((F_m_needsThought0 g n (mv g n (mv g n rs)) a).2)))) s H locs := hw
                refine lv_aload_n hx hb dX12_readsLine_175 rfl (lv_at hl 2 rfl) ?_
                refine k_V (wr := ([(z36, .inl (γ.2.1 0, 6, .inl (upd li 5 ((li 5) + 1)))), (z37, .inl (γ.2.1 0, 240, .inl (upd lw ((200 + (li 5)) : Int32).toNatClampNeg 2))), (z38, .inl (γ.2.1 0, 240, .inl (upd la ((200 + (li 5)) : Int32).toNatClampNeg (F_m_tenantNamed0 g n (mv g n rs) a)))), (z39, .inl (γ.2.1 0, 240, .inl (upd lb ((200 + (li 5)) : Int32).toNatClampNeg (((F_m_needsThought0 g n (mv g n (mv g n rs)) a).2).2.2.1))))] ++ (mWa γ z10 z11 z12 z13 z14 z15 z16 z17 z18 z19 z22 z23 a))) 0 gw_1471 gw_1473 gp_65 gw_15 gw_1474 hd_X12_closes hC hw (c_m_closes γ l z z2 z10 z11 z12 z13 z14 z15 z16 z17 z18 z19 z22 z23 z24 z25 z26 z27 z28 z29 z30 z31 z32 z33 z36 z37 z38 z39 z40 z41 z42 z43 z44 z45 z46 z47 z48 z55 z56 z59 z60 z61 n0 n1 n49 n50 n51 n52 n53 n54 n57 n58 n62 n63 n g (mv g n ((F_m_needsThought0 g n (mv g n (mv g n rs)) a).2)) hn) ⟨by decide, by decide⟩ ⟨by decide, by decide⟩ hl.1 rfl 16 rfl rfl rfl (Nat.le_of_ble_eq_true rfl) [16, 17] [0, 1, 2, 3, 4, 5, 6, 7, 8, 9, 10, 11, 12, 13, 14, 15] rfl rfl rfl rfl (by decide) dX12_readsLine_176 (fun r w1 H locs hq hw => ?_)
                obtain ⟨rfl, rfl⟩ := hq
                have hw : kW γ A ([(z36, .inl (γ.2.1 0, 6, .inl (upd li 5 ((li 5) + 1)))), (z37, .inl (γ.2.1 0, 240, .inl (upd lw ((200 + (li 5)) : Int32).toNatClampNeg 2))), (z38, .inl (γ.2.1 0, 240, .inl (upd la ((200 + (li 5)) : Int32).toNatClampNeg (F_m_tenantNamed0 g n (mv g n rs) a)))), (z39, .inl (γ.2.1 0, 240, .inl (upd lb ((200 + (li 5)) : Int32).toNatClampNeg (((F_m_needsThought0 g n (mv g n (mv g n rs)) a).2).2.2.1))))] ++ (mWa γ z10 z11 z12 z13 z14 z15 z16 z17 z18 z19 z22 z23 a) ++ (mWz γ z z2 z10 z11 z12 z13 z14 z15 z16 z17 z18 z19 z22 z23 z24 z25 z26 z27 z28 z29 z30 z31 z32 z33 z36 z37 z38 z39 z40 z41 z42 z43 z44 z45 z46 z47 z48 z55 z56 z59 z60 z61 n0 n1 n49 n50 n51 n52 n53 n54 n57 n58 n62 n63 g n ((F_m_closes g n (mv g n ((F_m_needsThought0 g n (mv g n (mv g n rs)) a).2))).2))) s H locs := hw
                refine W.eq (g2 := F0 m 179 ls [.int ((F_m_closes g n (mv g n ((F_m_needsThought0 g n (mv g n (mv g n rs)) a).2))).1)]) rfl ?_
                have hE : (F_m_readsLine g n rs a li lw la lb) = (((F_m_closes g n (mv g n ((F_m_needsThought0 g n (mv g n (mv g n rs)) a).2))).1), ((F_m_closes g n (mv g n ((F_m_needsThought0 g n (mv g n (mv g n rs)) a).2))).2), (upd li 5 ((li 5) + 1)), (upd lw ((200 + (li 5)) : Int32).toNatClampNeg 2), (upd la ((200 + (li 5)) : Int32).toNatClampNeg (F_m_tenantNamed0 g n (mv g n rs) a)), (upd lb ((200 + (li 5)) : Int32).toNatClampNeg (((F_m_needsThought0 g n (mv g n (mv g n rs)) a).2).2.2.1))) := by unfold F_m_readsLine; rw [if_pos c_449, if_pos c_450, if_neg c_451, if_neg c_453, if_pos c_455, if_pos c_457, if_neg c_458]
                have hw : kW γ A ([(z36, .inl (γ.2.1 0, 6, .inl ((F_m_readsLine g n rs a li lw la lb).2.2.1))), (z37, .inl (γ.2.1 0, 240, .inl ((F_m_readsLine g n rs a li lw la lb).2.2.2.1))), (z38, .inl (γ.2.1 0, 240, .inl ((F_m_readsLine g n rs a li lw la lb).2.2.2.2.1))), (z39, .inl (γ.2.1 0, 240, .inl ((F_m_readsLine g n rs a li lw la lb).2.2.2.2.2)))] ++ (mWa γ z10 z11 z12 z13 z14 z15 z16 z17 z18 z19 z22 z23 a) ++ (mWz γ z z2 z10 z11 z12 z13 z14 z15 z16 z17 z18 z19 z22 z23 z24 z25 z26 z27 z28 z29 z30 z31 z32 z33 z36 z37 z38 z39 z40 z41 z42 z43 z44 z45 z46 z47 z48 z55 z56 z59 z60 z61 n0 n1 n49 n50 n51 n52 n53 n54 n57 n58 n62 n63 g n ((F_m_readsLine g n rs a li lw la lb).2.1))) s H locs := by first | (rw [hE]; exact hw) | exact hw
                exact k_zret hC hr hlocks (zb b_closes) hw [16, 17, 4, 5, 6, 7, 8, 9, 10, 11, 12, 13, 14, 15, 0, 1, 2, 3] rfl rfl ⟨by rw [hE], rfl⟩ (by decide) (by decide) dX12_readsLine_179
              · refine lv_iconst (v := 0) hx hb dX12_readsLine_149 (by decide) ?_
                have hE : (F_m_readsLine g n rs a li lw la lb) = (0, ((F_m_needsThought0 g n (mv g n (mv g n rs)) a).2), li, (upd lw ((200 + (li 5)) : Int32).toNatClampNeg 2), (upd la ((200 + (li 5)) : Int32).toNatClampNeg (F_m_tenantNamed0 g n (mv g n rs) a)), lb) := by unfold F_m_readsLine; rw [if_pos c_449, if_pos c_450, if_neg c_451, if_neg c_453, if_pos c_455, if_pos c_457, if_pos c_458]
                have hw : kW γ A ([(z36, .inl (γ.2.1 0, 6, .inl ((F_m_readsLine g n rs a li lw la lb).2.2.1))), (z37, .inl (γ.2.1 0, 240, .inl ((F_m_readsLine g n rs a li lw la lb).2.2.2.1))), (z38, .inl (γ.2.1 0, 240, .inl ((F_m_readsLine g n rs a li lw la lb).2.2.2.2.1))), (z39, .inl (γ.2.1 0, 240, .inl ((F_m_readsLine g n rs a li lw la lb).2.2.2.2.2)))] ++ (mWz γ z z2 z10 z11 z12 z13 z14 z15 z16 z17 z18 z19 z22 z23 z24 z25 z26 z27 z28 z29 z30 z31 z32 z33 z36 z37 z38 z39 z40 z41 z42 z43 z44 z45 z46 z47 z48 z55 z56 z59 z60 z61 n0 n1 n49 n50 n51 n52 n53 n54 n57 n58 n62 n63 g n ((F_m_readsLine g n rs a li lw la lb).2.1)) ++ (mWa γ z10 z11 z12 z13 z14 z15 z16 z17 z18 z19 z22 z23 a)) s H locs := by first | (rw [hE]; exact hw) | exact hw
                exact k_zret hC hr hlocks rfl hw [4, 5, 6, 7, 8, 9, 10, 11, 12, 13, 14, 15, 16, 17, 0, 1, 2, 3] rfl rfl ⟨by rw [hE], rfl⟩ (by decide) (by decide) dX12_readsLine_150
            · refine lv_aload_n hx hb dX12_readsLine_126 rfl (lv_at hl 2 rfl) ?_
              refine lv_iconst (v := 2) hx hb dX12_readsLine_127 (by decide) ?_
              refine k_V (wr := ([(z36, .inl (γ.2.1 0, 6, .inl li)), (z37, .inl (γ.2.1 0, 240, .inl (upd lw ((200 + (li 5)) : Int32).toNatClampNeg 2))), (z38, .inl (γ.2.1 0, 240, .inl (upd la ((200 + (li 5)) : Int32).toNatClampNeg (F_m_tenantNamed0 g n (mv g n rs) a)))), (z39, .inl (γ.2.1 0, 240, .inl lb))] ++ (mWa γ z10 z11 z12 z13 z14 z15 z16 z17 z18 z19 z22 z23 a))) 1 gw_1421 gw_1423 gp_58 gw_15 gw_1424 hd_X12_fails hC hw (c_m_fails γ l z z2 z10 z11 z12 z13 z14 z15 z16 z17 z18 z19 z22 z23 z24 z25 z26 z27 z28 z29 z30 z31 z32 z33 z36 z37 z38 z39 z40 z41 z42 z43 z44 z45 z46 z47 z48 z55 z56 z59 z60 z61 n0 n1 n49 n50 n51 n52 n53 n54 n57 n58 n62 n63 n g (mv g n rs) 2 hn) ⟨by decide, by decide⟩ ⟨by decide, by decide⟩ hl.1 rfl 4 rfl rfl rfl (Nat.le_of_ble_eq_true rfl) [4, 5] [0, 1, 2, 3, 6, 7, 8, 9, 10, 11, 12, 13, 14, 15, 16, 17] rfl rfl rfl rfl (by decide) dX12_readsLine_128 (fun r w1 H locs hq hw => ?_)
              obtain ⟨rfl, rfl⟩ := hq
              have hw : kW γ A ([(z36, .inl (γ.2.1 0, 6, .inl li)), (z37, .inl (γ.2.1 0, 240, .inl (upd lw ((200 + (li 5)) : Int32).toNatClampNeg 2))), (z38, .inl (γ.2.1 0, 240, .inl (upd la ((200 + (li 5)) : Int32).toNatClampNeg (F_m_tenantNamed0 g n (mv g n rs) a)))), (z39, .inl (γ.2.1 0, 240, .inl lb))] ++ (mWa γ z10 z11 z12 z13 z14 z15 z16 z17 z18 z19 z22 z23 a) ++ (mWz γ z z2 z10 z11 z12 z13 z14 z15 z16 z17 z18 z19 z22 z23 z24 z25 z26 z27 z28 z29 z30 z31 z32 z33 z36 z37 z38 z39 z40 z41 z42 z43 z44 z45 z46 z47 z48 z55 z56 z59 z60 z61 n0 n1 n49 n50 n51 n52 n53 n54 n57 n58 n62 n63 g n (F_m_fails g n (mv g n rs) 2))) s H locs := hw
              refine W.eq (g2 := F0 m 131 ls [.int 0]) rfl ?_
              have hE : (F_m_readsLine g n rs a li lw la lb) = (0, (F_m_fails g n (mv g n rs) 2), li, (upd lw ((200 + (li 5)) : Int32).toNatClampNeg 2), (upd la ((200 + (li 5)) : Int32).toNatClampNeg (F_m_tenantNamed0 g n (mv g n rs) a)), lb) := by unfold F_m_readsLine; rw [if_pos c_449, if_pos c_450, if_neg c_451, if_neg c_453, if_pos c_455, if_neg c_457]
              have hw : kW γ A ([(z36, .inl (γ.2.1 0, 6, .inl ((F_m_readsLine g n rs a li lw la lb).2.2.1))), (z37, .inl (γ.2.1 0, 240, .inl ((F_m_readsLine g n rs a li lw la lb).2.2.2.1))), (z38, .inl (γ.2.1 0, 240, .inl ((F_m_readsLine g n rs a li lw la lb).2.2.2.2.1))), (z39, .inl (γ.2.1 0, 240, .inl ((F_m_readsLine g n rs a li lw la lb).2.2.2.2.2)))] ++ (mWa γ z10 z11 z12 z13 z14 z15 z16 z17 z18 z19 z22 z23 a) ++ (mWz γ z z2 z10 z11 z12 z13 z14 z15 z16 z17 z18 z19 z22 z23 z24 z25 z26 z27 z28 z29 z30 z31 z32 z33 z36 z37 z38 z39 z40 z41 z42 z43 z44 z45 z46 z47 z48 z55 z56 z59 z60 z61 n0 n1 n49 n50 n51 n52 n53 n54 n57 n58 n62 n63 g n ((F_m_readsLine g n rs a li lw la lb).2.1))) s H locs := by first | (rw [hE]; exact hw) | exact hw
              exact k_zret hC hr hlocks rfl hw [16, 17, 4, 5, 6, 7, 8, 9, 10, 11, 12, 13, 14, 15, 0, 1, 2, 3] rfl rfl ⟨by rw [hE], rfl⟩ (by decide) (by decide) dX12_readsLine_131
          · refine lv_aload_n hx hb dX12_readsLine_100 rfl (lv_at hl 2 rfl) ?_
            refine lv_iconst (v := 1) hx hb dX12_readsLine_101 (by decide) ?_
            refine k_V (wr := ((mWa γ z10 z11 z12 z13 z14 z15 z16 z17 z18 z19 z22 z23 a) ++ [(z36, .inl (γ.2.1 0, 6, .inl li)), (z37, .inl (γ.2.1 0, 240, .inl (upd lw ((200 + (li 5)) : Int32).toNatClampNeg 2))), (z38, .inl (γ.2.1 0, 240, .inl la)), (z39, .inl (γ.2.1 0, 240, .inl lb))])) 1 gw_1421 gw_1423 gp_58 gw_15 gw_1424 hd_X12_fails hC hw (c_m_fails γ l z z2 z10 z11 z12 z13 z14 z15 z16 z17 z18 z19 z22 z23 z24 z25 z26 z27 z28 z29 z30 z31 z32 z33 z36 z37 z38 z39 z40 z41 z42 z43 z44 z45 z46 z47 z48 z55 z56 z59 z60 z61 n0 n1 n49 n50 n51 n52 n53 n54 n57 n58 n62 n63 n g (mv g n rs) 1 hn) ⟨by decide, by decide⟩ ⟨by decide, by decide⟩ hl.1 rfl 16 rfl rfl rfl (Nat.le_of_ble_eq_true rfl) [16, 17] [0, 1, 2, 3, 4, 5, 6, 7, 8, 9, 10, 11, 12, 13, 14, 15] rfl rfl rfl rfl (by decide) dX12_readsLine_102 (fun r w1 H locs hq hw => ?_)
            obtain ⟨rfl, rfl⟩ := hq
            have hw : kW γ A ((mWa γ z10 z11 z12 z13 z14 z15 z16 z17 z18 z19 z22 z23 a) ++ [(z36, .inl (γ.2.1 0, 6, .inl li)), (z37, .inl (γ.2.1 0, 240, .inl (upd lw ((200 + (li 5)) : Int32).toNatClampNeg 2))), (z38, .inl (γ.2.1 0, 240, .inl la)), (z39, .inl (γ.2.1 0, 240, .inl lb))] ++ (mWz γ z z2 z10 z11 z12 z13 z14 z15 z16 z17 z18 z19 z22 z23 z24 z25 z26 z27 z28 z29 z30 z31 z32 z33 z36 z37 z38 z39 z40 z41 z42 z43 z44 z45 z46 z47 z48 z55 z56 z59 z60 z61 n0 n1 n49 n50 n51 n52 n53 n54 n57 n58 n62 n63 g n (F_m_fails g n (mv g n rs) 1))) s H locs := hw
            refine W.eq (g2 := F0 m 105 ls [.int 0]) rfl ?_
            have hE : (F_m_readsLine g n rs a li lw la lb) = (0, (F_m_fails g n (mv g n rs) 1), li, (upd lw ((200 + (li 5)) : Int32).toNatClampNeg 2), la, lb) := by unfold F_m_readsLine; rw [if_pos c_449, if_pos c_450, if_neg c_451, if_neg c_453, if_neg c_455]
            have hw : kW γ A ((mWa γ z10 z11 z12 z13 z14 z15 z16 z17 z18 z19 z22 z23 a) ++ [(z36, .inl (γ.2.1 0, 6, .inl ((F_m_readsLine g n rs a li lw la lb).2.2.1))), (z37, .inl (γ.2.1 0, 240, .inl ((F_m_readsLine g n rs a li lw la lb).2.2.2.1))), (z38, .inl (γ.2.1 0, 240, .inl ((F_m_readsLine g n rs a li lw la lb).2.2.2.2.1))), (z39, .inl (γ.2.1 0, 240, .inl ((F_m_readsLine g n rs a li lw la lb).2.2.2.2.2)))] ++ (mWz γ z z2 z10 z11 z12 z13 z14 z15 z16 z17 z18 z19 z22 z23 z24 z25 z26 z27 z28 z29 z30 z31 z32 z33 z36 z37 z38 z39 z40 z41 z42 z43 z44 z45 z46 z47 z48 z55 z56 z59 z60 z61 n0 n1 n49 n50 n51 n52 n53 n54 n57 n58 n62 n63 g n ((F_m_readsLine g n rs a li lw la lb).2.1))) s H locs := by first | (rw [hE]; exact hw) | exact hw
            exact k_zret hC hr hlocks rfl hw [16, 17, 0, 1, 2, 3, 4, 5, 6, 7, 8, 9, 10, 11, 12, 13, 14, 15] rfl rfl ⟨by rw [hE], rfl⟩ (by decide) (by decide) dX12_readsLine_105
        · refine lv_aload_n hx hb dX12_readsLine_65 rfl (lv_at hl 1 rfl) ?_
          refine lv_iconst (v := 5) hx hb dX12_readsLine_66 (by decide) ?_
          refine k_V (wr := ((mWa γ z10 z11 z12 z13 z14 z15 z16 z17 z18 z19 z22 z23 a) ++ [(z36, .inl (γ.2.1 0, 6, .inl li)), (z37, .inl (γ.2.1 0, 240, .inl lw)), (z38, .inl (γ.2.1 0, 240, .inl la)), (z39, .inl (γ.2.1 0, 240, .inl lb))])) 1 gw_1421 gw_1423 gp_58 gw_15 gw_1424 hd_X12_fails hC hw (c_m_fails γ l z z2 z10 z11 z12 z13 z14 z15 z16 z17 z18 z19 z22 z23 z24 z25 z26 z27 z28 z29 z30 z31 z32 z33 z36 z37 z38 z39 z40 z41 z42 z43 z44 z45 z46 z47 z48 z55 z56 z59 z60 z61 n0 n1 n49 n50 n51 n52 n53 n54 n57 n58 n62 n63 n g rs 5 hn) ⟨by decide, by decide⟩ ⟨by decide, by decide⟩ hl.1 rfl 16 rfl rfl rfl (Nat.le_of_ble_eq_true rfl) [16, 17] [0, 1, 2, 3, 4, 5, 6, 7, 8, 9, 10, 11, 12, 13, 14, 15] rfl rfl rfl rfl (by decide) dX12_readsLine_67 (fun r w1 H locs hq hw => ?_)
          obtain ⟨rfl, rfl⟩ := hq
          have hw : kW γ A ((mWa γ z10 z11 z12 z13 z14 z15 z16 z17 z18 z19 z22 z23 a) ++ [(z36, .inl (γ.2.1 0, 6, .inl li)), (z37, .inl (γ.2.1 0, 240, .inl lw)), (z38, .inl (γ.2.1 0, 240, .inl la)), (z39, .inl (γ.2.1 0, 240, .inl lb))] ++ (mWz γ z z2 z10 z11 z12 z13 z14 z15 z16 z17 z18 z19 z22 z23 z24 z25 z26 z27 z28 z29 z30 z31 z32 z33 z36 z37 z38 z39 z40 z41 z42 z43 z44 z45 z46 z47 z48 z55 z56 z59 z60 z61 n0 n1 n49 n50 n51 n52 n53 n54 n57 n58 n62 n63 g n (F_m_fails g n rs 5))) s H locs := hw
          refine W.eq (g2 := F0 m 70 ls [.int 0]) rfl ?_
          have hE : (F_m_readsLine g n rs a li lw la lb) = (0, (F_m_fails g n rs 5), li, lw, la, lb) := by unfold F_m_readsLine; rw [if_pos c_449, if_pos c_450, if_neg c_451, if_pos c_453]
          have hw : kW γ A ((mWa γ z10 z11 z12 z13 z14 z15 z16 z17 z18 z19 z22 z23 a) ++ [(z36, .inl (γ.2.1 0, 6, .inl ((F_m_readsLine g n rs a li lw la lb).2.2.1))), (z37, .inl (γ.2.1 0, 240, .inl ((F_m_readsLine g n rs a li lw la lb).2.2.2.1))), (z38, .inl (γ.2.1 0, 240, .inl ((F_m_readsLine g n rs a li lw la lb).2.2.2.2.1))), (z39, .inl (γ.2.1 0, 240, .inl ((F_m_readsLine g n rs a li lw la lb).2.2.2.2.2)))] ++ (mWz γ z z2 z10 z11 z12 z13 z14 z15 z16 z17 z18 z19 z22 z23 z24 z25 z26 z27 z28 z29 z30 z31 z32 z33 z36 z37 z38 z39 z40 z41 z42 z43 z44 z45 z46 z47 z48 z55 z56 z59 z60 z61 n0 n1 n49 n50 n51 n52 n53 n54 n57 n58 n62 n63 g n ((F_m_readsLine g n rs a li lw la lb).2.1))) s H locs := by first | (rw [hE]; exact hw) | exact hw
          exact k_zret hC hr hlocks rfl hw [16, 17, 0, 1, 2, 3, 4, 5, 6, 7, 8, 9, 10, 11, 12, 13, 14, 15] rfl rfl ⟨by rw [hE], rfl⟩ (by decide) (by decide) dX12_readsLine_70
    · refine lv_iconst (v := 1) hx hb dX12_readsLine_24 (by decide) ?_
      refine lv_goto (tgt := 43) hx hb dX12_readsLine_25 (by decide) ?_
      refine lv_istore_n (lv' := [(1, .int 1), (0, .ref z)]) hx hb dX12_readsLine_43 rfl hl (by decide) rfl (fun ls hl => ?_)
      refine lv_iload_n hx hb dX12_readsLine_44 rfl (lv_at hl 0 rfl) ?_
      refine lv_if_ge (tgt := 54) hx hb dX12_readsLine_45 (by decide) (fun _ => ?_) (fun h => absurd (by decide) h)
      refine lv_aload_n hx hb dX12_readsLine_54 rfl (lv_at hl 1 rfl) ?_
      refine fg_RX12_81 hC hw 16 rfl rfl dX12_readsLine_55 ?_
      refine lv_iconst (v := 5) hx hb dX12_readsLine_58 (by decide) ?_
      refine k_iald hC hw 12 rfl (k_in0 (by decide)) dX12_readsLine_59 ?_
      refine lv_topi (fun x_460 ex_460 => ?_)
      obtain rfl : x_460 = (li 5) := ex_460
      refine lv_bipush (v := 40) hx hb dX12_readsLine_60 (by decide) ?_
      refine lv_icmp_ne (tgt := 71) hx hb dX12_readsLine_62 (by decide) (fun c_461 => ?_) (fun c_461 => ?_)
      · refine lv_aload_n hx hb dX12_readsLine_71 rfl (lv_at hl 1 rfl) ?_
        refine k_V (wr := ((mWa γ z10 z11 z12 z13 z14 z15 z16 z17 z18 z19 z22 z23 a) ++ [(z36, .inl (γ.2.1 0, 6, .inl li)), (z37, .inl (γ.2.1 0, 240, .inl lw)), (z38, .inl (γ.2.1 0, 240, .inl la)), (z39, .inl (γ.2.1 0, 240, .inl lb))])) 0 gw_1402 gw_1404 gp_54 gw_15 gw_1405 hd_X12_nextToken hC hw (c_mv γ l z z2 z10 z11 z12 z13 z14 z15 z16 z17 z18 z19 z22 z23 z24 z25 z26 z27 z28 z29 z30 z31 z32 z33 z36 z37 z38 z39 z40 z41 z42 z43 z44 z45 z46 z47 z48 z55 z56 z59 z60 z61 n0 n1 n49 n50 n51 n52 n53 n54 n57 n58 n62 n63 n g rs hn) ⟨by decide, by decide⟩ ⟨by decide, by decide⟩ hl.1 rfl 16 rfl rfl rfl (Nat.le_of_ble_eq_true rfl) [16, 17] [0, 1, 2, 3, 4, 5, 6, 7, 8, 9, 10, 11, 12, 13, 14, 15] rfl rfl rfl rfl (by decide) dX12_readsLine_72 (fun r w1 H locs hq hw => ?_)
        obtain ⟨rfl, rfl⟩ := hq
        have hw : kW γ A ((mWa γ z10 z11 z12 z13 z14 z15 z16 z17 z18 z19 z22 z23 a) ++ [(z36, .inl (γ.2.1 0, 6, .inl li)), (z37, .inl (γ.2.1 0, 240, .inl lw)), (z38, .inl (γ.2.1 0, 240, .inl la)), (z39, .inl (γ.2.1 0, 240, .inl lb))] ++ (mWz γ z z2 z10 z11 z12 z13 z14 z15 z16 z17 z18 z19 z22 z23 z24 z25 z26 z27 z28 z29 z30 z31 z32 z33 z36 z37 z38 z39 z40 z41 z42 z43 z44 z45 z46 z47 z48 z55 z56 z59 z60 z61 n0 n1 n49 n50 n51 n52 n53 n54 n57 n58 n62 n63 g n (mv g n rs))) s H locs := hw
        refine W.eq (g2 := F0 m 75 ls []) rfl ?_
        refine lv_sipush (v := 200) hx hb dX12_readsLine_75 (by decide) ?_
        refine lv_aload_n hx hb dX12_readsLine_78 rfl (lv_at hl 1 rfl) ?_
        refine fg_RX12_81 hC hw 16 rfl rfl dX12_readsLine_79 ?_
        refine lv_iconst (v := 5) hx hb dX12_readsLine_82 (by decide) ?_
        refine k_iald hC hw 12 rfl (k_in0 (by decide)) dX12_readsLine_83 ?_
        refine lv_topi (fun x_462 ex_462 => ?_)
        obtain rfl : x_462 = (li 5) := ex_462
        refine lv_iadd hx hb dX12_readsLine_84 ?_
        refine lv_istore_n (lv' := [(2, .int (200 + (li 5))), (1, .int 1), (0, .ref z)]) hx hb dX12_readsLine_85 rfl hl (by decide) rfl (fun ls hl => ?_)
        refine lv_aload_n hx hb dX12_readsLine_86 rfl (lv_at hl 2 rfl) ?_
        refine fg_RX12_84 hC hw 16 rfl rfl dX12_readsLine_87 ?_
        refine lv_iload_n hx hb dX12_readsLine_90 rfl (lv_at hl 0 rfl) ?_
        refine lv_iload_n hx hb dX12_readsLine_91 rfl (lv_at hl 1 rfl) ?_
        refine k_iast hC hw 13 rfl (in240 hL.1 hL.2 c_461) dX12_readsLine_92 (fun H locs hw => ?_)
        have hw : kW γ A ((mWa γ z10 z11 z12 z13 z14 z15 z16 z17 z18 z19 z22 z23 a) ++ [(z36, .inl (γ.2.1 0, 6, .inl li)), (z37, .inl (γ.2.1 0, 240, .inl (upd lw ((200 + (li 5)) : Int32).toNatClampNeg 1))), (z38, .inl (γ.2.1 0, 240, .inl la)), (z39, .inl (γ.2.1 0, 240, .inl lb))] ++ (mWz γ z z2 z10 z11 z12 z13 z14 z15 z16 z17 z18 z19 z22 z23 z24 z25 z26 z27 z28 z29 z30 z31 z32 z33 z36 z37 z38 z39 z40 z41 z42 z43 z44 z45 z46 z47 z48 z55 z56 z59 z60 z61 n0 n1 n49 n50 n51 n52 n53 n54 n57 n58 n62 n63 g n (mv g n rs))) s H locs := hw
        refine lv_aload_n hx hb dX12_readsLine_93 rfl (lv_at hl 2 rfl) ?_
        refine k_V (wr := ((mWa γ z10 z11 z12 z13 z14 z15 z16 z17 z18 z19 z22 z23 a) ++ [(z36, .inl (γ.2.1 0, 6, .inl li)), (z37, .inl (γ.2.1 0, 240, .inl (upd lw ((200 + (li 5)) : Int32).toNatClampNeg 1))), (z38, .inl (γ.2.1 0, 240, .inl la)), (z39, .inl (γ.2.1 0, 240, .inl lb))])) 0 gw_1429 gw_1431 gp_60 gw_15 gw_1432 hd_X12_isKept hC hw (c_m_isKept γ l z z2 z10 z11 z12 z13 z14 z15 z16 z17 z18 z19 z22 z23 z24 z25 z26 z27 z28 z29 z30 z31 z32 z33 z36 z37 z38 z39 z40 z41 z42 z43 z44 z45 z46 z47 z48 z55 z56 z59 z60 z61 n0 n1 n49 n50 n51 n52 n53 n54 n57 n58 n62 n63 n g (mv g n rs) hn) ⟨by decide, by decide⟩ ⟨by decide, by decide⟩ hl.1 rfl 16 rfl rfl rfl (Nat.le_of_ble_eq_true rfl) [16, 17] [0, 1, 2, 3, 4, 5, 6, 7, 8, 9, 10, 11, 12, 13, 14, 15] rfl rfl rfl rfl (by decide) dX12_readsLine_94 (fun r w1 H locs hq hw => ?_)
        obtain ⟨rfl, rfl⟩ := hq
        have hw : kW γ A ((mWa γ z10 z11 z12 z13 z14 z15 z16 z17 z18 z19 z22 z23 a) ++ [(z36, .inl (γ.2.1 0, 6, .inl li)), (z37, .inl (γ.2.1 0, 240, .inl (upd lw ((200 + (li 5)) : Int32).toNatClampNeg 1))), (z38, .inl (γ.2.1 0, 240, .inl la)), (z39, .inl (γ.2.1 0, 240, .inl lb))] ++ (mWz γ z z2 z10 z11 z12 z13 z14 z15 z16 z17 z18 z19 z22 z23 z24 z25 z26 z27 z28 z29 z30 z31 z32 z33 z36 z37 z38 z39 z40 z41 z42 z43 z44 z45 z46 z47 z48 z55 z56 z59 z60 z61 n0 n1 n49 n50 n51 n52 n53 n54 n57 n58 n62 n63 g n (mv g n rs))) s H locs := hw
        refine W.eq (g2 := F0 m 97 ls [.int (F_m_isKept g n (mv g n rs))]) rfl ?_
        refine lv_if_eq (tgt := 106) hx hb dX12_readsLine_97 (by decide) (fun c_463 => ?_) (fun c_463 => ?_)
        · refine lv_aload_n hx hb dX12_readsLine_106 rfl (lv_at hl 2 rfl) ?_
          refine fg_RX12_87 hC hw 16 rfl rfl dX12_readsLine_107 ?_
          refine lv_iload_n hx hb dX12_readsLine_110 rfl (lv_at hl 0 rfl) ?_
          refine lv_aload_n hx hb dX12_readsLine_111 rfl (lv_at hl 2 rfl) ?_
          refine lv_iconst (v := 0) hx hb dX12_readsLine_112 (by decide) ?_
          refine k_V (wr := [(z36, .inl (γ.2.1 0, 6, .inl li)), (z37, .inl (γ.2.1 0, 240, .inl (upd lw ((200 + (li 5)) : Int32).toNatClampNeg 1))), (z38, .inl (γ.2.1 0, 240, .inl la)), (z39, .inl (γ.2.1 0, 240, .inl lb))]) 1 gw_1456 gw_1458 gp_62 gw_15 gw_1459 hd_X12_tenantNamed hC hw (c_m_tenantNamed0 γ l z z2 z10 z11 z12 z13 z14 z15 z16 z17 z18 z19 z22 z23 z24 z25 z26 z27 z28 z29 z30 z31 z32 z33 z36 z37 z38 z39 z40 z41 z42 z43 z44 z45 z46 z47 z48 z55 z56 z59 z60 z61 n0 n1 n49 n50 n51 n52 n53 n54 n57 n58 n62 n63 n g (mv g n rs) a hn hM0.2.1 hM0.2.2) ⟨by decide, by decide⟩ ⟨by decide, by decide⟩ hl.1 rfl 16 rfl rfl rfl (Nat.le_of_ble_eq_true rfl) [16, 17, 0, 1, 2, 3, 4, 5, 6, 7, 8, 9, 10, 11] [12, 13, 14, 15] rfl rfl rfl rfl (by decide) dX12_readsLine_113 (fun r w1 H locs hq hw => ?_)
          obtain ⟨rfl, rfl⟩ := hq
          have hw : kW γ A ([(z36, .inl (γ.2.1 0, 6, .inl li)), (z37, .inl (γ.2.1 0, 240, .inl (upd lw ((200 + (li 5)) : Int32).toNatClampNeg 1))), (z38, .inl (γ.2.1 0, 240, .inl la)), (z39, .inl (γ.2.1 0, 240, .inl lb))] ++ (mWz γ z z2 z10 z11 z12 z13 z14 z15 z16 z17 z18 z19 z22 z23 z24 z25 z26 z27 z28 z29 z30 z31 z32 z33 z36 z37 z38 z39 z40 z41 z42 z43 z44 z45 z46 z47 z48 z55 z56 z59 z60 z61 n0 n1 n49 n50 n51 n52 n53 n54 n57 n58 n62 n63 g n (mv g n rs)) ++ (mWa γ z10 z11 z12 z13 z14 z15 z16 z17 z18 z19 z22 z23 a)) s H locs := hw
          refine W.eq (g2 := F0 m 116 ls [.int (F_m_tenantNamed0 g n (mv g n rs) a), .int (200 + (li 5)), .ref z38]) rfl ?_
          refine k_iast hC hw 2 rfl (in240 hL.1 hL.2 c_461) dX12_readsLine_116 (fun H locs hw => ?_)
          have hw : kW γ A ([(z36, .inl (γ.2.1 0, 6, .inl li)), (z37, .inl (γ.2.1 0, 240, .inl (upd lw ((200 + (li 5)) : Int32).toNatClampNeg 1))), (z38, .inl (γ.2.1 0, 240, .inl (upd la ((200 + (li 5)) : Int32).toNatClampNeg (F_m_tenantNamed0 g n (mv g n rs) a)))), (z39, .inl (γ.2.1 0, 240, .inl lb))] ++ (mWz γ z z2 z10 z11 z12 z13 z14 z15 z16 z17 z18 z19 z22 z23 z24 z25 z26 z27 z28 z29 z30 z31 z32 z33 z36 z37 z38 z39 z40 z41 z42 z43 z44 z45 z46 z47 z48 z55 z56 z59 z60 z61 n0 n1 n49 n50 n51 n52 n53 n54 n57 n58 n62 n63 g n (mv g n rs)) ++ (mWa γ z10 z11 z12 z13 z14 z15 z16 z17 z18 z19 z22 z23 a)) s H locs := hw
          refine lv_aload_n hx hb dX12_readsLine_117 rfl (lv_at hl 2 rfl) ?_
          refine fg_RX12_87 hC hw 4 rfl rfl dX12_readsLine_118 ?_
          refine lv_iload_n hx hb dX12_readsLine_121 rfl (lv_at hl 0 rfl) ?_
          refine k_iald hC hw 2 rfl (in240 hL.1 hL.2 c_461) dX12_readsLine_122 ?_
          refine lv_topi (fun x_464 ex_464 => ?_)
          obtain rfl : x_464 = (F_m_tenantNamed0 g n (mv g n rs) a) := ex_464.trans (if_pos rfl)
          refine lv_if_ge (tgt := 132) hx hb dX12_readsLine_123 (by decide) (fun c_465 => ?_) (fun c_465 => ?_)
          · refine lv_aload_n hx hb dX12_readsLine_132 rfl (lv_at hl 2 rfl) ?_
            refine k_V (wr := ([(z36, .inl (γ.2.1 0, 6, .inl li)), (z37, .inl (γ.2.1 0, 240, .inl (upd lw ((200 + (li 5)) : Int32).toNatClampNeg 1))), (z38, .inl (γ.2.1 0, 240, .inl (upd la ((200 + (li 5)) : Int32).toNatClampNeg (F_m_tenantNamed0 g n (mv g n rs) a)))), (z39, .inl (γ.2.1 0, 240, .inl lb))] ++ (mWa γ z10 z11 z12 z13 z14 z15 z16 z17 z18 z19 z22 z23 a))) 0 gw_1402 gw_1404 gp_54 gw_15 gw_1405 hd_X12_nextToken hC hw (c_mv γ l z z2 z10 z11 z12 z13 z14 z15 z16 z17 z18 z19 z22 z23 z24 z25 z26 z27 z28 z29 z30 z31 z32 z33 z36 z37 z38 z39 z40 z41 z42 z43 z44 z45 z46 z47 z48 z55 z56 z59 z60 z61 n0 n1 n49 n50 n51 n52 n53 n54 n57 n58 n62 n63 n g (mv g n rs) hn) ⟨by decide, by decide⟩ ⟨by decide, by decide⟩ hl.1 rfl 4 rfl rfl rfl (Nat.le_of_ble_eq_true rfl) [4, 5] [0, 1, 2, 3, 6, 7, 8, 9, 10, 11, 12, 13, 14, 15, 16, 17] rfl rfl rfl rfl (by decide) dX12_readsLine_133 (fun r w1 H locs hq hw => ?_)
            obtain ⟨rfl, rfl⟩ := hq
            have hw : kW γ A ([(z36, .inl (γ.2.1 0, 6, .inl li)), (z37, .inl (γ.2.1 0, 240, .inl (upd lw ((200 + (li 5)) : Int32).toNatClampNeg 1))), (z38, .inl (γ.2.1 0, 240, .inl (upd la ((200 + (li 5)) : Int32).toNatClampNeg (F_m_tenantNamed0 g n (mv g n rs) a)))), (z39, .inl (γ.2.1 0, 240, .inl lb))] ++ (mWa γ z10 z11 z12 z13 z14 z15 z16 z17 z18 z19 z22 z23 a) ++ (mWz γ z z2 z10 z11 z12 z13 z14 z15 z16 z17 z18 z19 z22 z23 z24 z25 z26 z27 z28 z29 z30 z31 z32 z33 z36 z37 z38 z39 z40 z41 z42 z43 z44 z45 z46 z47 z48 z55 z56 z59 z60 z61 n0 n1 n49 n50 n51 n52 n53 n54 n57 n58 n62 n63 g n (mv g n (mv g n rs)))) s H locs := hw
            refine W.eq (g2 := F0 m 136 ls []) rfl ?_
            refine lv_iload_n hx hb dX12_readsLine_136 rfl (lv_at hl 1 rfl) ?_
            refine lv_iconst (v := 1) hx hb dX12_readsLine_137 (by decide) ?_
            refine lv_icmp_eq (tgt := 165) hx hb dX12_readsLine_138 (by decide) (fun _ => ?_) (fun h => absurd (by decide) h)
            refine lv_aload_n hx hb dX12_readsLine_165 rfl (lv_at hl 2 rfl) ?_
            refine fg_RX12_81 hC hw 16 rfl rfl dX12_readsLine_166 ?_
            refine lv_iconst (v := 5) hx hb dX12_readsLine_169 (by decide) ?_
            refine lv_dup2_11 hx hb dX12_readsLine_170 rfl rfl ?_
            refine k_iald hC hw 0 rfl (k_in0 (by decide)) dX12_readsLine_171 ?_
            refine lv_topi (fun x_466 ex_466 => ?_)
            obtain rfl : x_466 = (li 5) := ex_466
            refine lv_iconst (v := 1) hx hb dX12_readsLine_172 (by decide) ?_
            refine lv_iadd hx hb dX12_readsLine_173 ?_
            refine k_iast hC hw 0 rfl (k_in0 (by decide)) dX12_readsLine_174 (fun H locs hw => ?_)
            have hw : kW γ A ([(z36, .inl (γ.2.1 0, 6, .inl (upd li 5 ((li 5) + 1)))), (z37, .inl (γ.2.1 0, 240, .inl (upd lw ((200 + (li 5)) : Int32).toNatClampNeg 1))), (z38, .inl (γ.2.1 0, 240, .inl (upd la ((200 + (li 5)) : Int32).toNatClampNeg (F_m_tenantNamed0 g n (mv g n rs) a)))), (z39, .inl (γ.2.1 0, 240, .inl lb))] ++ (mWa γ z10 z11 z12 z13 z14 z15 z16 z17 z18 z19 z22 z23 a) ++ (mWz γ z z2 z10 z11 z12 z13 z14 z15 z16 z17 z18 z19 z22 z23 z24 z25 z26 z27 z28 z29 z30 z31 z32 z33 z36 z37 z38 z39 z40 z41 z42 z43 z44 z45 z46 z47 z48 z55 z56 z59 z60 z61 n0 n1 n49 n50 n51 n52 n53 n54 n57 n58 n62 n63 g n (mv g n (mv g n rs)))) s H locs := hw
            refine lv_aload_n hx hb dX12_readsLine_175 rfl (lv_at hl 2 rfl) ?_
            refine k_V (wr := ([(z36, .inl (γ.2.1 0, 6, .inl (upd li 5 ((li 5) + 1)))), (z37, .inl (γ.2.1 0, 240, .inl (upd lw ((200 + (li 5)) : Int32).toNatClampNeg 1))), (z38, .inl (γ.2.1 0, 240, .inl (upd la ((200 + (li 5)) : Int32).toNatClampNeg (F_m_tenantNamed0 g n (mv g n rs) a)))), (z39, .inl (γ.2.1 0, 240, .inl lb))] ++ (mWa γ z10 z11 z12 z13 z14 z15 z16 z17 z18 z19 z22 z23 a))) 0 gw_1471 gw_1473 gp_65 gw_15 gw_1474 hd_X12_closes hC hw (c_m_closes γ l z z2 z10 z11 z12 z13 z14 z15 z16 z17 z18 z19 z22 z23 z24 z25 z26 z27 z28 z29 z30 z31 z32 z33 z36 z37 z38 z39 z40 z41 z42 z43 z44 z45 z46 z47 z48 z55 z56 z59 z60 z61 n0 n1 n49 n50 n51 n52 n53 n54 n57 n58 n62 n63 n g (mv g n (mv g n rs)) hn) ⟨by decide, by decide⟩ ⟨by decide, by decide⟩ hl.1 rfl 16 rfl rfl rfl (Nat.le_of_ble_eq_true rfl) [16, 17] [0, 1, 2, 3, 4, 5, 6, 7, 8, 9, 10, 11, 12, 13, 14, 15] rfl rfl rfl rfl (by decide) dX12_readsLine_176 (fun r w1 H locs hq hw => ?_)
            obtain ⟨rfl, rfl⟩ := hq
            have hw : kW γ A ([(z36, .inl (γ.2.1 0, 6, .inl (upd li 5 ((li 5) + 1)))), (z37, .inl (γ.2.1 0, 240, .inl (upd lw ((200 + (li 5)) : Int32).toNatClampNeg 1))), (z38, .inl (γ.2.1 0, 240, .inl (upd la ((200 + (li 5)) : Int32).toNatClampNeg (F_m_tenantNamed0 g n (mv g n rs) a)))), (z39, .inl (γ.2.1 0, 240, .inl lb))] ++ (mWa γ z10 z11 z12 z13 z14 z15 z16 z17 z18 z19 z22 z23 a) ++ (mWz γ z z2 z10 z11 z12 z13 z14 z15 z16 z17 z18 z19 z22 z23 z24 z25 z26 z27 z28 z29 z30 z31 z32 z33 z36 z37 z38 z39 z40 z41 z42 z43 z44 z45 z46 z47 z48 z55 z56 z59 z60 z61 n0 n1 n49 n50 n51 n52 n53 n54 n57 n58 n62 n63 g n ((F_m_closes g n (mv g n (mv g n rs))).2))) s H locs := hw
            refine W.eq (g2 := F0 m 179 ls [.int ((F_m_closes g n (mv g n (mv g n rs))).1)]) rfl ?_
            have hE : (F_m_readsLine g n rs a li lw la lb) = (((F_m_closes g n (mv g n (mv g n rs))).1), ((F_m_closes g n (mv g n (mv g n rs))).2), (upd li 5 ((li 5) + 1)), (upd lw ((200 + (li 5)) : Int32).toNatClampNeg 1), (upd la ((200 + (li 5)) : Int32).toNatClampNeg (F_m_tenantNamed0 g n (mv g n rs) a)), lb) := by unfold F_m_readsLine; rw [if_pos c_449, if_neg c_450, if_neg c_461, if_pos c_463, if_pos c_465]
            have hw : kW γ A ([(z36, .inl (γ.2.1 0, 6, .inl ((F_m_readsLine g n rs a li lw la lb).2.2.1))), (z37, .inl (γ.2.1 0, 240, .inl ((F_m_readsLine g n rs a li lw la lb).2.2.2.1))), (z38, .inl (γ.2.1 0, 240, .inl ((F_m_readsLine g n rs a li lw la lb).2.2.2.2.1))), (z39, .inl (γ.2.1 0, 240, .inl ((F_m_readsLine g n rs a li lw la lb).2.2.2.2.2)))] ++ (mWa γ z10 z11 z12 z13 z14 z15 z16 z17 z18 z19 z22 z23 a) ++ (mWz γ z z2 z10 z11 z12 z13 z14 z15 z16 z17 z18 z19 z22 z23 z24 z25 z26 z27 z28 z29 z30 z31 z32 z33 z36 z37 z38 z39 z40 z41 z42 z43 z44 z45 z46 z47 z48 z55 z56 z59 z60 z61 n0 n1 n49 n50 n51 n52 n53 n54 n57 n58 n62 n63 g n ((F_m_readsLine g n rs a li lw la lb).2.1))) s H locs := by first | (rw [hE]; exact hw) | exact hw
            exact k_zret hC hr hlocks (zb b_closes) hw [16, 17, 4, 5, 6, 7, 8, 9, 10, 11, 12, 13, 14, 15, 0, 1, 2, 3] rfl rfl ⟨by rw [hE], rfl⟩ (by decide) (by decide) dX12_readsLine_179
          · refine lv_aload_n hx hb dX12_readsLine_126 rfl (lv_at hl 2 rfl) ?_
            refine lv_iconst (v := 2) hx hb dX12_readsLine_127 (by decide) ?_
            refine k_V (wr := ([(z36, .inl (γ.2.1 0, 6, .inl li)), (z37, .inl (γ.2.1 0, 240, .inl (upd lw ((200 + (li 5)) : Int32).toNatClampNeg 1))), (z38, .inl (γ.2.1 0, 240, .inl (upd la ((200 + (li 5)) : Int32).toNatClampNeg (F_m_tenantNamed0 g n (mv g n rs) a)))), (z39, .inl (γ.2.1 0, 240, .inl lb))] ++ (mWa γ z10 z11 z12 z13 z14 z15 z16 z17 z18 z19 z22 z23 a))) 1 gw_1421 gw_1423 gp_58 gw_15 gw_1424 hd_X12_fails hC hw (c_m_fails γ l z z2 z10 z11 z12 z13 z14 z15 z16 z17 z18 z19 z22 z23 z24 z25 z26 z27 z28 z29 z30 z31 z32 z33 z36 z37 z38 z39 z40 z41 z42 z43 z44 z45 z46 z47 z48 z55 z56 z59 z60 z61 n0 n1 n49 n50 n51 n52 n53 n54 n57 n58 n62 n63 n g (mv g n rs) 2 hn) ⟨by decide, by decide⟩ ⟨by decide, by decide⟩ hl.1 rfl 4 rfl rfl rfl (Nat.le_of_ble_eq_true rfl) [4, 5] [0, 1, 2, 3, 6, 7, 8, 9, 10, 11, 12, 13, 14, 15, 16, 17] rfl rfl rfl rfl (by decide) dX12_readsLine_128 (fun r w1 H locs hq hw => ?_)
            obtain ⟨rfl, rfl⟩ := hq
            have hw : kW γ A ([(z36, .inl (γ.2.1 0, 6, .inl li)), (z37, .inl (γ.2.1 0, 240, .inl (upd lw ((200 + (li 5)) : Int32).toNatClampNeg 1))), (z38, .inl (γ.2.1 0, 240, .inl (upd la ((200 + (li 5)) : Int32).toNatClampNeg (F_m_tenantNamed0 g n (mv g n rs) a)))), (z39, .inl (γ.2.1 0, 240, .inl lb))] ++ (mWa γ z10 z11 z12 z13 z14 z15 z16 z17 z18 z19 z22 z23 a) ++ (mWz γ z z2 z10 z11 z12 z13 z14 z15 z16 z17 z18 z19 z22 z23 z24 z25 z26 z27 z28 z29 z30 z31 z32 z33 z36 z37 z38 z39 z40 z41 z42 z43 z44 z45 z46 z47 z48 z55 z56 z59 z60 z61 n0 n1 n49 n50 n51 n52 n53 n54 n57 n58 n62 n63 g n (F_m_fails g n (mv g n rs) 2))) s H locs := hw
            refine W.eq (g2 := F0 m 131 ls [.int 0]) rfl ?_
            have hE : (F_m_readsLine g n rs a li lw la lb) = (0, (F_m_fails g n (mv g n rs) 2), li, (upd lw ((200 + (li 5)) : Int32).toNatClampNeg 1), (upd la ((200 + (li 5)) : Int32).toNatClampNeg (F_m_tenantNamed0 g n (mv g n rs) a)), lb) := by unfold F_m_readsLine; rw [if_pos c_449, if_neg c_450, if_neg c_461, if_pos c_463, if_neg c_465]
            have hw : kW γ A ([(z36, .inl (γ.2.1 0, 6, .inl ((F_m_readsLine g n rs a li lw la lb).2.2.1))), (z37, .inl (γ.2.1 0, 240, .inl ((F_m_readsLine g n rs a li lw la lb).2.2.2.1))), (z38, .inl (γ.2.1 0, 240, .inl ((F_m_readsLine g n rs a li lw la lb).2.2.2.2.1))), (z39, .inl (γ.2.1 0, 240, .inl ((F_m_readsLine g n rs a li lw la lb).2.2.2.2.2)))] ++ (mWa γ z10 z11 z12 z13 z14 z15 z16 z17 z18 z19 z22 z23 a) ++ (mWz γ z z2 z10 z11 z12 z13 z14 z15 z16 z17 z18 z19 z22 z23 z24 z25 z26 z27 z28 z29 z30 z31 z32 z33 z36 z37 z38 z39 z40 z41 z42 z43 z44 z45 z46 z47 z48 z55 z56 z59 z60 z61 n0 n1 n49 n50 n51 n52 n53 n54 n57 n58 n62 n63 g n ((F_m_readsLine g n rs a li lw la lb).2.1))) s H locs := by first | (rw [hE]; exact hw) | exact hw
            exact k_zret hC hr hlocks rfl hw [16, 17, 4, 5, 6, 7, 8, 9, 10, 11, 12, 13, 14, 15, 0, 1, 2, 3] rfl rfl ⟨by rw [hE], rfl⟩ (by decide) (by decide) dX12_readsLine_131
        · refine lv_aload_n hx hb dX12_readsLine_100 rfl (lv_at hl 2 rfl) ?_
          refine lv_iconst (v := 1) hx hb dX12_readsLine_101 (by decide) ?_
          refine k_V (wr := ((mWa γ z10 z11 z12 z13 z14 z15 z16 z17 z18 z19 z22 z23 a) ++ [(z36, .inl (γ.2.1 0, 6, .inl li)), (z37, .inl (γ.2.1 0, 240, .inl (upd lw ((200 + (li 5)) : Int32).toNatClampNeg 1))), (z38, .inl (γ.2.1 0, 240, .inl la)), (z39, .inl (γ.2.1 0, 240, .inl lb))])) 1 gw_1421 gw_1423 gp_58 gw_15 gw_1424 hd_X12_fails hC hw (c_m_fails γ l z z2 z10 z11 z12 z13 z14 z15 z16 z17 z18 z19 z22 z23 z24 z25 z26 z27 z28 z29 z30 z31 z32 z33 z36 z37 z38 z39 z40 z41 z42 z43 z44 z45 z46 z47 z48 z55 z56 z59 z60 z61 n0 n1 n49 n50 n51 n52 n53 n54 n57 n58 n62 n63 n g (mv g n rs) 1 hn) ⟨by decide, by decide⟩ ⟨by decide, by decide⟩ hl.1 rfl 16 rfl rfl rfl (Nat.le_of_ble_eq_true rfl) [16, 17] [0, 1, 2, 3, 4, 5, 6, 7, 8, 9, 10, 11, 12, 13, 14, 15] rfl rfl rfl rfl (by decide) dX12_readsLine_102 (fun r w1 H locs hq hw => ?_)
          obtain ⟨rfl, rfl⟩ := hq
          have hw : kW γ A ((mWa γ z10 z11 z12 z13 z14 z15 z16 z17 z18 z19 z22 z23 a) ++ [(z36, .inl (γ.2.1 0, 6, .inl li)), (z37, .inl (γ.2.1 0, 240, .inl (upd lw ((200 + (li 5)) : Int32).toNatClampNeg 1))), (z38, .inl (γ.2.1 0, 240, .inl la)), (z39, .inl (γ.2.1 0, 240, .inl lb))] ++ (mWz γ z z2 z10 z11 z12 z13 z14 z15 z16 z17 z18 z19 z22 z23 z24 z25 z26 z27 z28 z29 z30 z31 z32 z33 z36 z37 z38 z39 z40 z41 z42 z43 z44 z45 z46 z47 z48 z55 z56 z59 z60 z61 n0 n1 n49 n50 n51 n52 n53 n54 n57 n58 n62 n63 g n (F_m_fails g n (mv g n rs) 1))) s H locs := hw
          refine W.eq (g2 := F0 m 105 ls [.int 0]) rfl ?_
          have hE : (F_m_readsLine g n rs a li lw la lb) = (0, (F_m_fails g n (mv g n rs) 1), li, (upd lw ((200 + (li 5)) : Int32).toNatClampNeg 1), la, lb) := by unfold F_m_readsLine; rw [if_pos c_449, if_neg c_450, if_neg c_461, if_neg c_463]
          have hw : kW γ A ((mWa γ z10 z11 z12 z13 z14 z15 z16 z17 z18 z19 z22 z23 a) ++ [(z36, .inl (γ.2.1 0, 6, .inl ((F_m_readsLine g n rs a li lw la lb).2.2.1))), (z37, .inl (γ.2.1 0, 240, .inl ((F_m_readsLine g n rs a li lw la lb).2.2.2.1))), (z38, .inl (γ.2.1 0, 240, .inl ((F_m_readsLine g n rs a li lw la lb).2.2.2.2.1))), (z39, .inl (γ.2.1 0, 240, .inl ((F_m_readsLine g n rs a li lw la lb).2.2.2.2.2)))] ++ (mWz γ z z2 z10 z11 z12 z13 z14 z15 z16 z17 z18 z19 z22 z23 z24 z25 z26 z27 z28 z29 z30 z31 z32 z33 z36 z37 z38 z39 z40 z41 z42 z43 z44 z45 z46 z47 z48 z55 z56 z59 z60 z61 n0 n1 n49 n50 n51 n52 n53 n54 n57 n58 n62 n63 g n ((F_m_readsLine g n rs a li lw la lb).2.1))) s H locs := by first | (rw [hE]; exact hw) | exact hw
          exact k_zret hC hr hlocks rfl hw [16, 17, 0, 1, 2, 3, 4, 5, 6, 7, 8, 9, 10, 11, 12, 13, 14, 15] rfl rfl ⟨by rw [hE], rfl⟩ (by decide) (by decide) dX12_readsLine_105
      · refine lv_aload_n hx hb dX12_readsLine_65 rfl (lv_at hl 1 rfl) ?_
        refine lv_iconst (v := 5) hx hb dX12_readsLine_66 (by decide) ?_
        refine k_V (wr := ((mWa γ z10 z11 z12 z13 z14 z15 z16 z17 z18 z19 z22 z23 a) ++ [(z36, .inl (γ.2.1 0, 6, .inl li)), (z37, .inl (γ.2.1 0, 240, .inl lw)), (z38, .inl (γ.2.1 0, 240, .inl la)), (z39, .inl (γ.2.1 0, 240, .inl lb))])) 1 gw_1421 gw_1423 gp_58 gw_15 gw_1424 hd_X12_fails hC hw (c_m_fails γ l z z2 z10 z11 z12 z13 z14 z15 z16 z17 z18 z19 z22 z23 z24 z25 z26 z27 z28 z29 z30 z31 z32 z33 z36 z37 z38 z39 z40 z41 z42 z43 z44 z45 z46 z47 z48 z55 z56 z59 z60 z61 n0 n1 n49 n50 n51 n52 n53 n54 n57 n58 n62 n63 n g rs 5 hn) ⟨by decide, by decide⟩ ⟨by decide, by decide⟩ hl.1 rfl 16 rfl rfl rfl (Nat.le_of_ble_eq_true rfl) [16, 17] [0, 1, 2, 3, 4, 5, 6, 7, 8, 9, 10, 11, 12, 13, 14, 15] rfl rfl rfl rfl (by decide) dX12_readsLine_67 (fun r w1 H locs hq hw => ?_)
        obtain ⟨rfl, rfl⟩ := hq
        have hw : kW γ A ((mWa γ z10 z11 z12 z13 z14 z15 z16 z17 z18 z19 z22 z23 a) ++ [(z36, .inl (γ.2.1 0, 6, .inl li)), (z37, .inl (γ.2.1 0, 240, .inl lw)), (z38, .inl (γ.2.1 0, 240, .inl la)), (z39, .inl (γ.2.1 0, 240, .inl lb))] ++ (mWz γ z z2 z10 z11 z12 z13 z14 z15 z16 z17 z18 z19 z22 z23 z24 z25 z26 z27 z28 z29 z30 z31 z32 z33 z36 z37 z38 z39 z40 z41 z42 z43 z44 z45 z46 z47 z48 z55 z56 z59 z60 z61 n0 n1 n49 n50 n51 n52 n53 n54 n57 n58 n62 n63 g n (F_m_fails g n rs 5))) s H locs := hw
        refine W.eq (g2 := F0 m 70 ls [.int 0]) rfl ?_
        have hE : (F_m_readsLine g n rs a li lw la lb) = (0, (F_m_fails g n rs 5), li, lw, la, lb) := by unfold F_m_readsLine; rw [if_pos c_449, if_neg c_450, if_pos c_461]
        have hw : kW γ A ((mWa γ z10 z11 z12 z13 z14 z15 z16 z17 z18 z19 z22 z23 a) ++ [(z36, .inl (γ.2.1 0, 6, .inl ((F_m_readsLine g n rs a li lw la lb).2.2.1))), (z37, .inl (γ.2.1 0, 240, .inl ((F_m_readsLine g n rs a li lw la lb).2.2.2.1))), (z38, .inl (γ.2.1 0, 240, .inl ((F_m_readsLine g n rs a li lw la lb).2.2.2.2.1))), (z39, .inl (γ.2.1 0, 240, .inl ((F_m_readsLine g n rs a li lw la lb).2.2.2.2.2)))] ++ (mWz γ z z2 z10 z11 z12 z13 z14 z15 z16 z17 z18 z19 z22 z23 z24 z25 z26 z27 z28 z29 z30 z31 z32 z33 z36 z37 z38 z39 z40 z41 z42 z43 z44 z45 z46 z47 z48 z55 z56 z59 z60 z61 n0 n1 n49 n50 n51 n52 n53 n54 n57 n58 n62 n63 g n ((F_m_readsLine g n rs a li lw la lb).2.1))) s H locs := by first | (rw [hE]; exact hw) | exact hw
        exact k_zret hC hr hlocks rfl hw [16, 17, 0, 1, 2, 3, 4, 5, 6, 7, 8, 9, 10, 11, 12, 13, 14, 15] rfl rfl ⟨by rw [hE], rfl⟩ (by decide) (by decide) dX12_readsLine_70
  · refine lv_iconst (v := 0) hx hb dX12_readsLine_10 (by decide) ?_
    refine lv_goto (tgt := 43) hx hb dX12_readsLine_11 (by decide) ?_
    refine lv_istore_n (lv' := [(1, .int 0), (0, .ref z)]) hx hb dX12_readsLine_43 rfl hl (by decide) rfl (fun ls hl => ?_)
    refine lv_iload_n hx hb dX12_readsLine_44 rfl (lv_at hl 0 rfl) ?_
    refine lv_if_ge (tgt := 54) hx hb dX12_readsLine_45 (by decide) (fun _ => ?_) (fun h => absurd (by decide) h)
    refine lv_aload_n hx hb dX12_readsLine_54 rfl (lv_at hl 1 rfl) ?_
    refine fg_RX12_81 hC hw 16 rfl rfl dX12_readsLine_55 ?_
    refine lv_iconst (v := 5) hx hb dX12_readsLine_58 (by decide) ?_
    refine k_iald hC hw 12 rfl (k_in0 (by decide)) dX12_readsLine_59 ?_
    refine lv_topi (fun x_467 ex_467 => ?_)
    obtain rfl : x_467 = (li 5) := ex_467
    refine lv_bipush (v := 40) hx hb dX12_readsLine_60 (by decide) ?_
    refine lv_icmp_ne (tgt := 71) hx hb dX12_readsLine_62 (by decide) (fun c_468 => ?_) (fun c_468 => ?_)
    · refine lv_aload_n hx hb dX12_readsLine_71 rfl (lv_at hl 1 rfl) ?_
      refine k_V (wr := ((mWa γ z10 z11 z12 z13 z14 z15 z16 z17 z18 z19 z22 z23 a) ++ [(z36, .inl (γ.2.1 0, 6, .inl li)), (z37, .inl (γ.2.1 0, 240, .inl lw)), (z38, .inl (γ.2.1 0, 240, .inl la)), (z39, .inl (γ.2.1 0, 240, .inl lb))])) 0 gw_1402 gw_1404 gp_54 gw_15 gw_1405 hd_X12_nextToken hC hw (c_mv γ l z z2 z10 z11 z12 z13 z14 z15 z16 z17 z18 z19 z22 z23 z24 z25 z26 z27 z28 z29 z30 z31 z32 z33 z36 z37 z38 z39 z40 z41 z42 z43 z44 z45 z46 z47 z48 z55 z56 z59 z60 z61 n0 n1 n49 n50 n51 n52 n53 n54 n57 n58 n62 n63 n g rs hn) ⟨by decide, by decide⟩ ⟨by decide, by decide⟩ hl.1 rfl 16 rfl rfl rfl (Nat.le_of_ble_eq_true rfl) [16, 17] [0, 1, 2, 3, 4, 5, 6, 7, 8, 9, 10, 11, 12, 13, 14, 15] rfl rfl rfl rfl (by decide) dX12_readsLine_72 (fun r w1 H locs hq hw => ?_)
      obtain ⟨rfl, rfl⟩ := hq
      have hw : kW γ A ((mWa γ z10 z11 z12 z13 z14 z15 z16 z17 z18 z19 z22 z23 a) ++ [(z36, .inl (γ.2.1 0, 6, .inl li)), (z37, .inl (γ.2.1 0, 240, .inl lw)), (z38, .inl (γ.2.1 0, 240, .inl la)), (z39, .inl (γ.2.1 0, 240, .inl lb))] ++ (mWz γ z z2 z10 z11 z12 z13 z14 z15 z16 z17 z18 z19 z22 z23 z24 z25 z26 z27 z28 z29 z30 z31 z32 z33 z36 z37 z38 z39 z40 z41 z42 z43 z44 z45 z46 z47 z48 z55 z56 z59 z60 z61 n0 n1 n49 n50 n51 n52 n53 n54 n57 n58 n62 n63 g n (mv g n rs))) s H locs := hw
      refine W.eq (g2 := F0 m 75 ls []) rfl ?_
      refine lv_sipush (v := 200) hx hb dX12_readsLine_75 (by decide) ?_
      refine lv_aload_n hx hb dX12_readsLine_78 rfl (lv_at hl 1 rfl) ?_
      refine fg_RX12_81 hC hw 16 rfl rfl dX12_readsLine_79 ?_
      refine lv_iconst (v := 5) hx hb dX12_readsLine_82 (by decide) ?_
      refine k_iald hC hw 12 rfl (k_in0 (by decide)) dX12_readsLine_83 ?_
      refine lv_topi (fun x_469 ex_469 => ?_)
      obtain rfl : x_469 = (li 5) := ex_469
      refine lv_iadd hx hb dX12_readsLine_84 ?_
      refine lv_istore_n (lv' := [(2, .int (200 + (li 5))), (1, .int 0), (0, .ref z)]) hx hb dX12_readsLine_85 rfl hl (by decide) rfl (fun ls hl => ?_)
      refine lv_aload_n hx hb dX12_readsLine_86 rfl (lv_at hl 2 rfl) ?_
      refine fg_RX12_84 hC hw 16 rfl rfl dX12_readsLine_87 ?_
      refine lv_iload_n hx hb dX12_readsLine_90 rfl (lv_at hl 0 rfl) ?_
      refine lv_iload_n hx hb dX12_readsLine_91 rfl (lv_at hl 1 rfl) ?_
      refine k_iast hC hw 13 rfl (in240 hL.1 hL.2 c_468) dX12_readsLine_92 (fun H locs hw => ?_)
      have hw : kW γ A ((mWa γ z10 z11 z12 z13 z14 z15 z16 z17 z18 z19 z22 z23 a) ++ [(z36, .inl (γ.2.1 0, 6, .inl li)), (z37, .inl (γ.2.1 0, 240, .inl (upd lw ((200 + (li 5)) : Int32).toNatClampNeg 0))), (z38, .inl (γ.2.1 0, 240, .inl la)), (z39, .inl (γ.2.1 0, 240, .inl lb))] ++ (mWz γ z z2 z10 z11 z12 z13 z14 z15 z16 z17 z18 z19 z22 z23 z24 z25 z26 z27 z28 z29 z30 z31 z32 z33 z36 z37 z38 z39 z40 z41 z42 z43 z44 z45 z46 z47 z48 z55 z56 z59 z60 z61 n0 n1 n49 n50 n51 n52 n53 n54 n57 n58 n62 n63 g n (mv g n rs))) s H locs := hw
      refine lv_aload_n hx hb dX12_readsLine_93 rfl (lv_at hl 2 rfl) ?_
      refine k_V (wr := ((mWa γ z10 z11 z12 z13 z14 z15 z16 z17 z18 z19 z22 z23 a) ++ [(z36, .inl (γ.2.1 0, 6, .inl li)), (z37, .inl (γ.2.1 0, 240, .inl (upd lw ((200 + (li 5)) : Int32).toNatClampNeg 0))), (z38, .inl (γ.2.1 0, 240, .inl la)), (z39, .inl (γ.2.1 0, 240, .inl lb))])) 0 gw_1429 gw_1431 gp_60 gw_15 gw_1432 hd_X12_isKept hC hw (c_m_isKept γ l z z2 z10 z11 z12 z13 z14 z15 z16 z17 z18 z19 z22 z23 z24 z25 z26 z27 z28 z29 z30 z31 z32 z33 z36 z37 z38 z39 z40 z41 z42 z43 z44 z45 z46 z47 z48 z55 z56 z59 z60 z61 n0 n1 n49 n50 n51 n52 n53 n54 n57 n58 n62 n63 n g (mv g n rs) hn) ⟨by decide, by decide⟩ ⟨by decide, by decide⟩ hl.1 rfl 16 rfl rfl rfl (Nat.le_of_ble_eq_true rfl) [16, 17] [0, 1, 2, 3, 4, 5, 6, 7, 8, 9, 10, 11, 12, 13, 14, 15] rfl rfl rfl rfl (by decide) dX12_readsLine_94 (fun r w1 H locs hq hw => ?_)
      obtain ⟨rfl, rfl⟩ := hq
      have hw : kW γ A ((mWa γ z10 z11 z12 z13 z14 z15 z16 z17 z18 z19 z22 z23 a) ++ [(z36, .inl (γ.2.1 0, 6, .inl li)), (z37, .inl (γ.2.1 0, 240, .inl (upd lw ((200 + (li 5)) : Int32).toNatClampNeg 0))), (z38, .inl (γ.2.1 0, 240, .inl la)), (z39, .inl (γ.2.1 0, 240, .inl lb))] ++ (mWz γ z z2 z10 z11 z12 z13 z14 z15 z16 z17 z18 z19 z22 z23 z24 z25 z26 z27 z28 z29 z30 z31 z32 z33 z36 z37 z38 z39 z40 z41 z42 z43 z44 z45 z46 z47 z48 z55 z56 z59 z60 z61 n0 n1 n49 n50 n51 n52 n53 n54 n57 n58 n62 n63 g n (mv g n rs))) s H locs := hw
      refine W.eq (g2 := F0 m 97 ls [.int (F_m_isKept g n (mv g n rs))]) rfl ?_
      refine lv_if_eq (tgt := 106) hx hb dX12_readsLine_97 (by decide) (fun c_470 => ?_) (fun c_470 => ?_)
      · refine lv_aload_n hx hb dX12_readsLine_106 rfl (lv_at hl 2 rfl) ?_
        refine fg_RX12_87 hC hw 16 rfl rfl dX12_readsLine_107 ?_
        refine lv_iload_n hx hb dX12_readsLine_110 rfl (lv_at hl 0 rfl) ?_
        refine lv_aload_n hx hb dX12_readsLine_111 rfl (lv_at hl 2 rfl) ?_
        refine lv_iconst (v := 0) hx hb dX12_readsLine_112 (by decide) ?_
        refine k_V (wr := [(z36, .inl (γ.2.1 0, 6, .inl li)), (z37, .inl (γ.2.1 0, 240, .inl (upd lw ((200 + (li 5)) : Int32).toNatClampNeg 0))), (z38, .inl (γ.2.1 0, 240, .inl la)), (z39, .inl (γ.2.1 0, 240, .inl lb))]) 1 gw_1456 gw_1458 gp_62 gw_15 gw_1459 hd_X12_tenantNamed hC hw (c_m_tenantNamed0 γ l z z2 z10 z11 z12 z13 z14 z15 z16 z17 z18 z19 z22 z23 z24 z25 z26 z27 z28 z29 z30 z31 z32 z33 z36 z37 z38 z39 z40 z41 z42 z43 z44 z45 z46 z47 z48 z55 z56 z59 z60 z61 n0 n1 n49 n50 n51 n52 n53 n54 n57 n58 n62 n63 n g (mv g n rs) a hn hM0.2.1 hM0.2.2) ⟨by decide, by decide⟩ ⟨by decide, by decide⟩ hl.1 rfl 16 rfl rfl rfl (Nat.le_of_ble_eq_true rfl) [16, 17, 0, 1, 2, 3, 4, 5, 6, 7, 8, 9, 10, 11] [12, 13, 14, 15] rfl rfl rfl rfl (by decide) dX12_readsLine_113 (fun r w1 H locs hq hw => ?_)
        obtain ⟨rfl, rfl⟩ := hq
        have hw : kW γ A ([(z36, .inl (γ.2.1 0, 6, .inl li)), (z37, .inl (γ.2.1 0, 240, .inl (upd lw ((200 + (li 5)) : Int32).toNatClampNeg 0))), (z38, .inl (γ.2.1 0, 240, .inl la)), (z39, .inl (γ.2.1 0, 240, .inl lb))] ++ (mWz γ z z2 z10 z11 z12 z13 z14 z15 z16 z17 z18 z19 z22 z23 z24 z25 z26 z27 z28 z29 z30 z31 z32 z33 z36 z37 z38 z39 z40 z41 z42 z43 z44 z45 z46 z47 z48 z55 z56 z59 z60 z61 n0 n1 n49 n50 n51 n52 n53 n54 n57 n58 n62 n63 g n (mv g n rs)) ++ (mWa γ z10 z11 z12 z13 z14 z15 z16 z17 z18 z19 z22 z23 a)) s H locs := hw
        refine W.eq (g2 := F0 m 116 ls [.int (F_m_tenantNamed0 g n (mv g n rs) a), .int (200 + (li 5)), .ref z38]) rfl ?_
        refine k_iast hC hw 2 rfl (in240 hL.1 hL.2 c_468) dX12_readsLine_116 (fun H locs hw => ?_)
        have hw : kW γ A ([(z36, .inl (γ.2.1 0, 6, .inl li)), (z37, .inl (γ.2.1 0, 240, .inl (upd lw ((200 + (li 5)) : Int32).toNatClampNeg 0))), (z38, .inl (γ.2.1 0, 240, .inl (upd la ((200 + (li 5)) : Int32).toNatClampNeg (F_m_tenantNamed0 g n (mv g n rs) a)))), (z39, .inl (γ.2.1 0, 240, .inl lb))] ++ (mWz γ z z2 z10 z11 z12 z13 z14 z15 z16 z17 z18 z19 z22 z23 z24 z25 z26 z27 z28 z29 z30 z31 z32 z33 z36 z37 z38 z39 z40 z41 z42 z43 z44 z45 z46 z47 z48 z55 z56 z59 z60 z61 n0 n1 n49 n50 n51 n52 n53 n54 n57 n58 n62 n63 g n (mv g n rs)) ++ (mWa γ z10 z11 z12 z13 z14 z15 z16 z17 z18 z19 z22 z23 a)) s H locs := hw
        refine lv_aload_n hx hb dX12_readsLine_117 rfl (lv_at hl 2 rfl) ?_
        refine fg_RX12_87 hC hw 4 rfl rfl dX12_readsLine_118 ?_
        refine lv_iload_n hx hb dX12_readsLine_121 rfl (lv_at hl 0 rfl) ?_
        refine k_iald hC hw 2 rfl (in240 hL.1 hL.2 c_468) dX12_readsLine_122 ?_
        refine lv_topi (fun x_471 ex_471 => ?_)
        obtain rfl : x_471 = (F_m_tenantNamed0 g n (mv g n rs) a) := ex_471.trans (if_pos rfl)
        refine lv_if_ge (tgt := 132) hx hb dX12_readsLine_123 (by decide) (fun c_472 => ?_) (fun c_472 => ?_)
        · refine lv_aload_n hx hb dX12_readsLine_132 rfl (lv_at hl 2 rfl) ?_
          refine k_V (wr := ([(z36, .inl (γ.2.1 0, 6, .inl li)), (z37, .inl (γ.2.1 0, 240, .inl (upd lw ((200 + (li 5)) : Int32).toNatClampNeg 0))), (z38, .inl (γ.2.1 0, 240, .inl (upd la ((200 + (li 5)) : Int32).toNatClampNeg (F_m_tenantNamed0 g n (mv g n rs) a)))), (z39, .inl (γ.2.1 0, 240, .inl lb))] ++ (mWa γ z10 z11 z12 z13 z14 z15 z16 z17 z18 z19 z22 z23 a))) 0 gw_1402 gw_1404 gp_54 gw_15 gw_1405 hd_X12_nextToken hC hw (c_mv γ l z z2 z10 z11 z12 z13 z14 z15 z16 z17 z18 z19 z22 z23 z24 z25 z26 z27 z28 z29 z30 z31 z32 z33 z36 z37 z38 z39 z40 z41 z42 z43 z44 z45 z46 z47 z48 z55 z56 z59 z60 z61 n0 n1 n49 n50 n51 n52 n53 n54 n57 n58 n62 n63 n g (mv g n rs) hn) ⟨by decide, by decide⟩ ⟨by decide, by decide⟩ hl.1 rfl 4 rfl rfl rfl (Nat.le_of_ble_eq_true rfl) [4, 5] [0, 1, 2, 3, 6, 7, 8, 9, 10, 11, 12, 13, 14, 15, 16, 17] rfl rfl rfl rfl (by decide) dX12_readsLine_133 (fun r w1 H locs hq hw => ?_)
          obtain ⟨rfl, rfl⟩ := hq
          have hw : kW γ A ([(z36, .inl (γ.2.1 0, 6, .inl li)), (z37, .inl (γ.2.1 0, 240, .inl (upd lw ((200 + (li 5)) : Int32).toNatClampNeg 0))), (z38, .inl (γ.2.1 0, 240, .inl (upd la ((200 + (li 5)) : Int32).toNatClampNeg (F_m_tenantNamed0 g n (mv g n rs) a)))), (z39, .inl (γ.2.1 0, 240, .inl lb))] ++ (mWa γ z10 z11 z12 z13 z14 z15 z16 z17 z18 z19 z22 z23 a) ++ (mWz γ z z2 z10 z11 z12 z13 z14 z15 z16 z17 z18 z19 z22 z23 z24 z25 z26 z27 z28 z29 z30 z31 z32 z33 z36 z37 z38 z39 z40 z41 z42 z43 z44 z45 z46 z47 z48 z55 z56 z59 z60 z61 n0 n1 n49 n50 n51 n52 n53 n54 n57 n58 n62 n63 g n (mv g n (mv g n rs)))) s H locs := hw
          refine W.eq (g2 := F0 m 136 ls []) rfl ?_
          refine lv_iload_n hx hb dX12_readsLine_136 rfl (lv_at hl 1 rfl) ?_
          refine lv_iconst (v := 1) hx hb dX12_readsLine_137 (by decide) ?_
          refine lv_icmp_eq (tgt := 165) hx hb dX12_readsLine_138 (by decide) (fun h => absurd h (by decide)) (fun _ => ?_)
          refine lv_aload_n hx hb dX12_readsLine_141 rfl (lv_at hl 2 rfl) ?_
          refine lv_iconst (v := 0) hx hb dX12_readsLine_142 (by decide) ?_
          refine k_V (wr := [(z36, .inl (γ.2.1 0, 6, .inl li)), (z37, .inl (γ.2.1 0, 240, .inl (upd lw ((200 + (li 5)) : Int32).toNatClampNeg 0))), (z38, .inl (γ.2.1 0, 240, .inl (upd la ((200 + (li 5)) : Int32).toNatClampNeg (F_m_tenantNamed0 g n (mv g n rs) a)))), (z39, .inl (γ.2.1 0, 240, .inl lb))]) 1 gw_1483 gw_1485 gp_68 gw_15 gw_1486 hd_X12_needsThought hC hw (c_m_needsThought0 γ l z z2 z10 z11 z12 z13 z14 z15 z16 z17 z18 z19 z22 z23 z24 z25 z26 z27 z28 z29 z30 z31 z32 z33 z36 z37 z38 z39 z40 z41 z42 z43 z44 z45 z46 z47 z48 z55 z56 z59 z60 z61 n0 n1 n49 n50 n51 n52 n53 n54 n57 n58 n62 n63 n g (mv g n (mv g n rs)) a hn hM0) ⟨by decide, by decide⟩ ⟨by decide, by decide⟩ hl.1 rfl 16 rfl rfl rfl (Nat.le_of_ble_eq_true rfl) [16, 17, 4, 5, 6, 7, 8, 9, 10, 11, 12, 13, 14, 15] [0, 1, 2, 3] rfl rfl rfl rfl (by decide) dX12_readsLine_143 (fun r w1 H locs hq hw => ?_)
          obtain ⟨rfl, rfl⟩ := hq
          have hw : kW γ A ([(z36, .inl (γ.2.1 0, 6, .inl li)), (z37, .inl (γ.2.1 0, 240, .inl (upd lw ((200 + (li 5)) : Int32).toNatClampNeg 0))), (z38, .inl (γ.2.1 0, 240, .inl (upd la ((200 + (li 5)) : Int32).toNatClampNeg (F_m_tenantNamed0 g n (mv g n rs) a)))), (z39, .inl (γ.2.1 0, 240, .inl lb))] ++ (mWz γ z z2 z10 z11 z12 z13 z14 z15 z16 z17 z18 z19 z22 z23 z24 z25 z26 z27 z28 z29 z30 z31 z32 z33 z36 z37 z38 z39 z40 z41 z42 z43 z44 z45 z46 z47 z48 z55 z56 z59 z60 z61 n0 n1 n49 n50 n51 n52 n53 n54 n57 n58 n62 n63 g n ((F_m_needsThought0 g n (mv g n (mv g n rs)) a).2)) ++ (mWa γ z10 z11 z12 z13 z14 z15 z16 z17 z18 z19 z22 z23 a)) s H locs := hw
          refine W.eq (g2 := F0 m 146 ls [.int ((F_m_needsThought0 g n (mv g n (mv g n rs)) a).1)]) rfl ?_
          refine lv_if_ne (tgt := 151) hx hb dX12_readsLine_146 (by decide) (fun c_473 => ?_) (fun c_473 => ?_)
          · refine lv_aload_n hx hb dX12_readsLine_151 rfl (lv_at hl 2 rfl) ?_
            refine fg_RX12_90 hC hw 4 rfl rfl dX12_readsLine_152 ?_
            refine lv_iload_n hx hb dX12_readsLine_155 rfl (lv_at hl 0 rfl) ?_
            refine lv_aload_n hx hb dX12_readsLine_156 rfl (lv_at hl 2 rfl) ?_
            refine fg_RX12_266 hC hw 4 rfl rfl dX12_readsLine_157 ?_
            refine k_iast hC hw 3 rfl (in240 hL.1 hL.2 c_468) dX12_readsLine_160 (fun H locs hw => ?_)
            have hw : kW γ A ([(z36, .inl (γ.2.1 0, 6, .inl li)), (z37, .inl (γ.2.1 0, 240, .inl (upd lw ((200 + (li 5)) : Int32).toNatClampNeg 0))), (z38, .inl (γ.2.1 0, 240, .inl (upd la ((200 + (li 5)) : Int32).toNatClampNeg (F_m_tenantNamed0 g n (mv g n rs) a)))), (z39, .inl (γ.2.1 0, 240, .inl (upd lb ((200 + (li 5)) : Int32).toNatClampNeg (((F_m_needsThought0 g n (mv g n (mv g n rs)) a).2).2.2.1))))] ++ (mWz γ z z2 z10 z11 z12 z13 z14 z15 z16 z17 z18 z19 z22 z23 z24 z25 z26 z27 z28 z29 z30 z31 z32 z33 z36 z37 z38 z39 z40 z41 z42 z43 z44 z45 z46 z47 z48 z55 z56 z59 z60 z61 n0 n1 n49 n50 n51 n52 n53 n54 n57 n58 n62 n63 g n ((F_m_needsThought0 g n (mv g n (mv g n rs)) a).2)) ++ (mWa γ z10 z11 z12 z13 z14 z15 z16 z17 z18 z19 z22 z23 a)) s H locs := hw
            refine lv_aload_n hx hb dX12_readsLine_161 rfl (lv_at hl 2 rfl) ?_
            refine k_V (wr := ([(z36, .inl (γ.2.1 0, 6, .inl li)), (z37, .inl (γ.2.1 0, 240, .inl (upd lw ((200 + (li 5)) : Int32).toNatClampNeg 0))), (z38, .inl (γ.2.1 0, 240, .inl (upd la ((200 + (li 5)) : Int32).toNatClampNeg (F_m_tenantNamed0 g n (mv g n rs) a)))), (z39, .inl (γ.2.1 0, 240, .inl (upd lb ((200 + (li 5)) : Int32).toNatClampNeg (((F_m_needsThought0 g n (mv g n (mv g n rs)) a).2).2.2.1))))] ++ (mWa γ z10 z11 z12 z13 z14 z15 z16 z17 z18 z19 z22 z23 a))) 0 gw_1402 gw_1404 gp_54 gw_15 gw_1405 hd_X12_nextToken hC hw (c_mv γ l z z2 z10 z11 z12 z13 z14 z15 z16 z17 z18 z19 z22 z23 z24 z25 z26 z27 z28 z29 z30 z31 z32 z33 z36 z37 z38 z39 z40 z41 z42 z43 z44 z45 z46 z47 z48 z55 z56 z59 z60 z61 n0 n1 n49 n50 n51 n52 n53 n54 n57 n58 n62 n63 n g ((F_m_needsThought0 g n (mv g n (mv g n rs)) a).2) hn) ⟨by decide, by decide⟩ ⟨by decide, by decide⟩ hl.1 rfl 4 rfl rfl rfl (Nat.le_of_ble_eq_true rfl) [4, 5] [0, 1, 2, 3, 6, 7, 8, 9, 10, 11, 12, 13, 14, 15, 16, 17] rfl rfl rfl rfl (by decide) dX12_readsLine_162 (fun r w1 H locs hq hw => ?_)
            obtain ⟨rfl, rfl⟩ := hq
            have hw : kW γ A ([(z36, .inl (γ.2.1 0, 6, .inl li)), (z37, .inl (γ.2.1 0, 240, .inl (upd lw ((200 + (li 5)) : Int32).toNatClampNeg 0))), (z38, .inl (γ.2.1 0, 240, .inl (upd la ((200 + (li 5)) : Int32).toNatClampNeg (F_m_tenantNamed0 g n (mv g n rs) a)))), (z39, .inl (γ.2.1 0, 240, .inl (upd lb ((200 + (li 5)) : Int32).toNatClampNeg (((F_m_needsThought0 g n (mv g n (mv g n rs)) a).2).2.2.1))))] ++ (mWa γ z10 z11 z12 z13 z14 z15 z16 z17 z18 z19 z22 z23 a) ++ (mWz γ z z2 z10 z11 z12 z13 z14 z15 z16 z17 z18 z19 z22 z23 z24 z25 z26 z27 z28 z29 z30 z31 z32 z33 z36 z37 z38 z39 z40 z41 z42 z43 z44 z45 z46 z47 z48 z55 z56 z59 z60 z61 n0 n1 n49 n50 n51 n52 n53 n54 n57 n58 n62 n63 g n (mv g n ((F_m_needsThought0 g n (mv g n (mv g n rs)) a).2)))) s H locs := hw
            refine W.eq (g2 := F0 m 165 ls []) rfl ?_
            refine lv_aload_n hx hb dX12_readsLine_165 rfl (lv_at hl 2 rfl) ?_
            refine fg_RX12_81 hC hw 16 rfl rfl dX12_readsLine_166 ?_
            refine lv_iconst (v := 5) hx hb dX12_readsLine_169 (by decide) ?_
            refine lv_dup2_11 hx hb dX12_readsLine_170 rfl rfl ?_
            refine k_iald hC hw 0 rfl (k_in0 (by decide)) dX12_readsLine_171 ?_
            refine lv_topi (fun x_474 ex_474 => ?_)
            obtain rfl : x_474 = (li 5) := ex_474
            refine lv_iconst (v := 1) hx hb dX12_readsLine_172 (by decide) ?_
            refine lv_iadd hx hb dX12_readsLine_173 ?_
            refine k_iast hC hw 0 rfl (k_in0 (by decide)) dX12_readsLine_174 (fun H locs hw => ?_)
            have hw : kW γ A ([(z36, .inl (γ.2.1 0, 6, .inl (upd li 5 ((li 5) + 1)))), (z37, .inl (γ.2.1 0, 240, .inl (upd lw ((200 + (li 5)) : Int32).toNatClampNeg 0))), (z38, .inl (γ.2.1 0, 240, .inl (upd la ((200 + (li 5)) : Int32).toNatClampNeg (F_m_tenantNamed0 g n (mv g n rs) a)))), (z39, .inl (γ.2.1 0, 240, .inl (upd lb ((200 + (li 5)) : Int32).toNatClampNeg (((F_m_needsThought0 g n (mv g n (mv g n rs)) a).2).2.2.1))))] ++ (mWa γ z10 z11 z12 z13 z14 z15 z16 z17 z18 z19 z22 z23 a) ++ (mWz γ z z2 z10 z11 z12 z13 z14 z15 z16 z17 z18 z19 z22 z23 z24 z25 z26 z27 z28 z29 z30 z31 z32 z33 z36 z37 z38 z39 z40 z41 z42 z43 z44 z45 z46 z47 z48 z55 z56 z59 z60 z61 n0 n1 n49 n50 n51 n52 n53 n54 n57 n58 n62 n63 g n (mv g n ((F_m_needsThought0 g n (mv g n (mv g n rs)) a).2)))) s H locs := hw
            refine lv_aload_n hx hb dX12_readsLine_175 rfl (lv_at hl 2 rfl) ?_
            refine k_V (wr := ([(z36, .inl (γ.2.1 0, 6, .inl (upd li 5 ((li 5) + 1)))), (z37, .inl (γ.2.1 0, 240, .inl (upd lw ((200 + (li 5)) : Int32).toNatClampNeg 0))), (z38, .inl (γ.2.1 0, 240, .inl (upd la ((200 + (li 5)) : Int32).toNatClampNeg (F_m_tenantNamed0 g n (mv g n rs) a)))), (z39, .inl (γ.2.1 0, 240, .inl (upd lb ((200 + (li 5)) : Int32).toNatClampNeg (((F_m_needsThought0 g n (mv g n (mv g n rs)) a).2).2.2.1))))] ++ (mWa γ z10 z11 z12 z13 z14 z15 z16 z17 z18 z19 z22 z23 a))) 0 gw_1471 gw_1473 gp_65 gw_15 gw_1474 hd_X12_closes hC hw (c_m_closes γ l z z2 z10 z11 z12 z13 z14 z15 z16 z17 z18 z19 z22 z23 z24 z25 z26 z27 z28 z29 z30 z31 z32 z33 z36 z37 z38 z39 z40 z41 z42 z43 z44 z45 z46 z47 z48 z55 z56 z59 z60 z61 n0 n1 n49 n50 n51 n52 n53 n54 n57 n58 n62 n63 n g (mv g n ((F_m_needsThought0 g n (mv g n (mv g n rs)) a).2)) hn) ⟨by decide, by decide⟩ ⟨by decide, by decide⟩ hl.1 rfl 16 rfl rfl rfl (Nat.le_of_ble_eq_true rfl) [16, 17] [0, 1, 2, 3, 4, 5, 6, 7, 8, 9, 10, 11, 12, 13, 14, 15] rfl rfl rfl rfl (by decide) dX12_readsLine_176 (fun r w1 H locs hq hw => ?_)
            obtain ⟨rfl, rfl⟩ := hq
            have hw : kW γ A ([(z36, .inl (γ.2.1 0, 6, .inl (upd li 5 ((li 5) + 1)))), (z37, .inl (γ.2.1 0, 240, .inl (upd lw ((200 + (li 5)) : Int32).toNatClampNeg 0))), (z38, .inl (γ.2.1 0, 240, .inl (upd la ((200 + (li 5)) : Int32).toNatClampNeg (F_m_tenantNamed0 g n (mv g n rs) a)))), (z39, .inl (γ.2.1 0, 240, .inl (upd lb ((200 + (li 5)) : Int32).toNatClampNeg (((F_m_needsThought0 g n (mv g n (mv g n rs)) a).2).2.2.1))))] ++ (mWa γ z10 z11 z12 z13 z14 z15 z16 z17 z18 z19 z22 z23 a) ++ (mWz γ z z2 z10 z11 z12 z13 z14 z15 z16 z17 z18 z19 z22 z23 z24 z25 z26 z27 z28 z29 z30 z31 z32 z33 z36 z37 z38 z39 z40 z41 z42 z43 z44 z45 z46 z47 z48 z55 z56 z59 z60 z61 n0 n1 n49 n50 n51 n52 n53 n54 n57 n58 n62 n63 g n ((F_m_closes g n (mv g n ((F_m_needsThought0 g n (mv g n (mv g n rs)) a).2))).2))) s H locs := hw
            refine W.eq (g2 := F0 m 179 ls [.int ((F_m_closes g n (mv g n ((F_m_needsThought0 g n (mv g n (mv g n rs)) a).2))).1)]) rfl ?_
            have hE : (F_m_readsLine g n rs a li lw la lb) = (((F_m_closes g n (mv g n ((F_m_needsThought0 g n (mv g n (mv g n rs)) a).2))).1), ((F_m_closes g n (mv g n ((F_m_needsThought0 g n (mv g n (mv g n rs)) a).2))).2), (upd li 5 ((li 5) + 1)), (upd lw ((200 + (li 5)) : Int32).toNatClampNeg 0), (upd la ((200 + (li 5)) : Int32).toNatClampNeg (F_m_tenantNamed0 g n (mv g n rs) a)), (upd lb ((200 + (li 5)) : Int32).toNatClampNeg (((F_m_needsThought0 g n (mv g n (mv g n rs)) a).2).2.2.1))) := by unfold F_m_readsLine; rw [if_neg c_449, if_neg c_468, if_pos c_470, if_pos c_472, if_neg c_473]
            have hw : kW γ A ([(z36, .inl (γ.2.1 0, 6, .inl ((F_m_readsLine g n rs a li lw la lb).2.2.1))), (z37, .inl (γ.2.1 0, 240, .inl ((F_m_readsLine g n rs a li lw la lb).2.2.2.1))), (z38, .inl (γ.2.1 0, 240, .inl ((F_m_readsLine g n rs a li lw la lb).2.2.2.2.1))), (z39, .inl (γ.2.1 0, 240, .inl ((F_m_readsLine g n rs a li lw la lb).2.2.2.2.2)))] ++ (mWa γ z10 z11 z12 z13 z14 z15 z16 z17 z18 z19 z22 z23 a) ++ (mWz γ z z2 z10 z11 z12 z13 z14 z15 z16 z17 z18 z19 z22 z23 z24 z25 z26 z27 z28 z29 z30 z31 z32 z33 z36 z37 z38 z39 z40 z41 z42 z43 z44 z45 z46 z47 z48 z55 z56 z59 z60 z61 n0 n1 n49 n50 n51 n52 n53 n54 n57 n58 n62 n63 g n ((F_m_readsLine g n rs a li lw la lb).2.1))) s H locs := by first | (rw [hE]; exact hw) | exact hw
            exact k_zret hC hr hlocks (zb b_closes) hw [16, 17, 4, 5, 6, 7, 8, 9, 10, 11, 12, 13, 14, 15, 0, 1, 2, 3] rfl rfl ⟨by rw [hE], rfl⟩ (by decide) (by decide) dX12_readsLine_179
          · refine lv_iconst (v := 0) hx hb dX12_readsLine_149 (by decide) ?_
            have hE : (F_m_readsLine g n rs a li lw la lb) = (0, ((F_m_needsThought0 g n (mv g n (mv g n rs)) a).2), li, (upd lw ((200 + (li 5)) : Int32).toNatClampNeg 0), (upd la ((200 + (li 5)) : Int32).toNatClampNeg (F_m_tenantNamed0 g n (mv g n rs) a)), lb) := by unfold F_m_readsLine; rw [if_neg c_449, if_neg c_468, if_pos c_470, if_pos c_472, if_pos c_473]
            have hw : kW γ A ([(z36, .inl (γ.2.1 0, 6, .inl ((F_m_readsLine g n rs a li lw la lb).2.2.1))), (z37, .inl (γ.2.1 0, 240, .inl ((F_m_readsLine g n rs a li lw la lb).2.2.2.1))), (z38, .inl (γ.2.1 0, 240, .inl ((F_m_readsLine g n rs a li lw la lb).2.2.2.2.1))), (z39, .inl (γ.2.1 0, 240, .inl ((F_m_readsLine g n rs a li lw la lb).2.2.2.2.2)))] ++ (mWz γ z z2 z10 z11 z12 z13 z14 z15 z16 z17 z18 z19 z22 z23 z24 z25 z26 z27 z28 z29 z30 z31 z32 z33 z36 z37 z38 z39 z40 z41 z42 z43 z44 z45 z46 z47 z48 z55 z56 z59 z60 z61 n0 n1 n49 n50 n51 n52 n53 n54 n57 n58 n62 n63 g n ((F_m_readsLine g n rs a li lw la lb).2.1)) ++ (mWa γ z10 z11 z12 z13 z14 z15 z16 z17 z18 z19 z22 z23 a)) s H locs := by first | (rw [hE]; exact hw) | exact hw
            exact k_zret hC hr hlocks rfl hw [4, 5, 6, 7, 8, 9, 10, 11, 12, 13, 14, 15, 16, 17, 0, 1, 2, 3] rfl rfl ⟨by rw [hE], rfl⟩ (by decide) (by decide) dX12_readsLine_150
        · refine lv_aload_n hx hb dX12_readsLine_126 rfl (lv_at hl 2 rfl) ?_
          refine lv_iconst (v := 2) hx hb dX12_readsLine_127 (by decide) ?_
          refine k_V (wr := ([(z36, .inl (γ.2.1 0, 6, .inl li)), (z37, .inl (γ.2.1 0, 240, .inl (upd lw ((200 + (li 5)) : Int32).toNatClampNeg 0))), (z38, .inl (γ.2.1 0, 240, .inl (upd la ((200 + (li 5)) : Int32).toNatClampNeg (F_m_tenantNamed0 g n (mv g n rs) a)))), (z39, .inl (γ.2.1 0, 240, .inl lb))] ++ (mWa γ z10 z11 z12 z13 z14 z15 z16 z17 z18 z19 z22 z23 a))) 1 gw_1421 gw_1423 gp_58 gw_15 gw_1424 hd_X12_fails hC hw (c_m_fails γ l z z2 z10 z11 z12 z13 z14 z15 z16 z17 z18 z19 z22 z23 z24 z25 z26 z27 z28 z29 z30 z31 z32 z33 z36 z37 z38 z39 z40 z41 z42 z43 z44 z45 z46 z47 z48 z55 z56 z59 z60 z61 n0 n1 n49 n50 n51 n52 n53 n54 n57 n58 n62 n63 n g (mv g n rs) 2 hn) ⟨by decide, by decide⟩ ⟨by decide, by decide⟩ hl.1 rfl 4 rfl rfl rfl (Nat.le_of_ble_eq_true rfl) [4, 5] [0, 1, 2, 3, 6, 7, 8, 9, 10, 11, 12, 13, 14, 15, 16, 17] rfl rfl rfl rfl (by decide) dX12_readsLine_128 (fun r w1 H locs hq hw => ?_)
          obtain ⟨rfl, rfl⟩ := hq
          have hw : kW γ A ([(z36, .inl (γ.2.1 0, 6, .inl li)), (z37, .inl (γ.2.1 0, 240, .inl (upd lw ((200 + (li 5)) : Int32).toNatClampNeg 0))), (z38, .inl (γ.2.1 0, 240, .inl (upd la ((200 + (li 5)) : Int32).toNatClampNeg (F_m_tenantNamed0 g n (mv g n rs) a)))), (z39, .inl (γ.2.1 0, 240, .inl lb))] ++ (mWa γ z10 z11 z12 z13 z14 z15 z16 z17 z18 z19 z22 z23 a) ++ (mWz γ z z2 z10 z11 z12 z13 z14 z15 z16 z17 z18 z19 z22 z23 z24 z25 z26 z27 z28 z29 z30 z31 z32 z33 z36 z37 z38 z39 z40 z41 z42 z43 z44 z45 z46 z47 z48 z55 z56 z59 z60 z61 n0 n1 n49 n50 n51 n52 n53 n54 n57 n58 n62 n63 g n (F_m_fails g n (mv g n rs) 2))) s H locs := hw
          refine W.eq (g2 := F0 m 131 ls [.int 0]) rfl ?_
          have hE : (F_m_readsLine g n rs a li lw la lb) = (0, (F_m_fails g n (mv g n rs) 2), li, (upd lw ((200 + (li 5)) : Int32).toNatClampNeg 0), (upd la ((200 + (li 5)) : Int32).toNatClampNeg (F_m_tenantNamed0 g n (mv g n rs) a)), lb) := by unfold F_m_readsLine; rw [if_neg c_449, if_neg c_468, if_pos c_470, if_neg c_472]
          have hw : kW γ A ([(z36, .inl (γ.2.1 0, 6, .inl ((F_m_readsLine g n rs a li lw la lb).2.2.1))), (z37, .inl (γ.2.1 0, 240, .inl ((F_m_readsLine g n rs a li lw la lb).2.2.2.1))), (z38, .inl (γ.2.1 0, 240, .inl ((F_m_readsLine g n rs a li lw la lb).2.2.2.2.1))), (z39, .inl (γ.2.1 0, 240, .inl ((F_m_readsLine g n rs a li lw la lb).2.2.2.2.2)))] ++ (mWa γ z10 z11 z12 z13 z14 z15 z16 z17 z18 z19 z22 z23 a) ++ (mWz γ z z2 z10 z11 z12 z13 z14 z15 z16 z17 z18 z19 z22 z23 z24 z25 z26 z27 z28 z29 z30 z31 z32 z33 z36 z37 z38 z39 z40 z41 z42 z43 z44 z45 z46 z47 z48 z55 z56 z59 z60 z61 n0 n1 n49 n50 n51 n52 n53 n54 n57 n58 n62 n63 g n ((F_m_readsLine g n rs a li lw la lb).2.1))) s H locs := by first | (rw [hE]; exact hw) | exact hw
          exact k_zret hC hr hlocks rfl hw [16, 17, 4, 5, 6, 7, 8, 9, 10, 11, 12, 13, 14, 15, 0, 1, 2, 3] rfl rfl ⟨by rw [hE], rfl⟩ (by decide) (by decide) dX12_readsLine_131
      · refine lv_aload_n hx hb dX12_readsLine_100 rfl (lv_at hl 2 rfl) ?_
        refine lv_iconst (v := 1) hx hb dX12_readsLine_101 (by decide) ?_
        refine k_V (wr := ((mWa γ z10 z11 z12 z13 z14 z15 z16 z17 z18 z19 z22 z23 a) ++ [(z36, .inl (γ.2.1 0, 6, .inl li)), (z37, .inl (γ.2.1 0, 240, .inl (upd lw ((200 + (li 5)) : Int32).toNatClampNeg 0))), (z38, .inl (γ.2.1 0, 240, .inl la)), (z39, .inl (γ.2.1 0, 240, .inl lb))])) 1 gw_1421 gw_1423 gp_58 gw_15 gw_1424 hd_X12_fails hC hw (c_m_fails γ l z z2 z10 z11 z12 z13 z14 z15 z16 z17 z18 z19 z22 z23 z24 z25 z26 z27 z28 z29 z30 z31 z32 z33 z36 z37 z38 z39 z40 z41 z42 z43 z44 z45 z46 z47 z48 z55 z56 z59 z60 z61 n0 n1 n49 n50 n51 n52 n53 n54 n57 n58 n62 n63 n g (mv g n rs) 1 hn) ⟨by decide, by decide⟩ ⟨by decide, by decide⟩ hl.1 rfl 16 rfl rfl rfl (Nat.le_of_ble_eq_true rfl) [16, 17] [0, 1, 2, 3, 4, 5, 6, 7, 8, 9, 10, 11, 12, 13, 14, 15] rfl rfl rfl rfl (by decide) dX12_readsLine_102 (fun r w1 H locs hq hw => ?_)
        obtain ⟨rfl, rfl⟩ := hq
        have hw : kW γ A ((mWa γ z10 z11 z12 z13 z14 z15 z16 z17 z18 z19 z22 z23 a) ++ [(z36, .inl (γ.2.1 0, 6, .inl li)), (z37, .inl (γ.2.1 0, 240, .inl (upd lw ((200 + (li 5)) : Int32).toNatClampNeg 0))), (z38, .inl (γ.2.1 0, 240, .inl la)), (z39, .inl (γ.2.1 0, 240, .inl lb))] ++ (mWz γ z z2 z10 z11 z12 z13 z14 z15 z16 z17 z18 z19 z22 z23 z24 z25 z26 z27 z28 z29 z30 z31 z32 z33 z36 z37 z38 z39 z40 z41 z42 z43 z44 z45 z46 z47 z48 z55 z56 z59 z60 z61 n0 n1 n49 n50 n51 n52 n53 n54 n57 n58 n62 n63 g n (F_m_fails g n (mv g n rs) 1))) s H locs := hw
        refine W.eq (g2 := F0 m 105 ls [.int 0]) rfl ?_
        have hE : (F_m_readsLine g n rs a li lw la lb) = (0, (F_m_fails g n (mv g n rs) 1), li, (upd lw ((200 + (li 5)) : Int32).toNatClampNeg 0), la, lb) := by unfold F_m_readsLine; rw [if_neg c_449, if_neg c_468, if_neg c_470]
        have hw : kW γ A ((mWa γ z10 z11 z12 z13 z14 z15 z16 z17 z18 z19 z22 z23 a) ++ [(z36, .inl (γ.2.1 0, 6, .inl ((F_m_readsLine g n rs a li lw la lb).2.2.1))), (z37, .inl (γ.2.1 0, 240, .inl ((F_m_readsLine g n rs a li lw la lb).2.2.2.1))), (z38, .inl (γ.2.1 0, 240, .inl ((F_m_readsLine g n rs a li lw la lb).2.2.2.2.1))), (z39, .inl (γ.2.1 0, 240, .inl ((F_m_readsLine g n rs a li lw la lb).2.2.2.2.2)))] ++ (mWz γ z z2 z10 z11 z12 z13 z14 z15 z16 z17 z18 z19 z22 z23 z24 z25 z26 z27 z28 z29 z30 z31 z32 z33 z36 z37 z38 z39 z40 z41 z42 z43 z44 z45 z46 z47 z48 z55 z56 z59 z60 z61 n0 n1 n49 n50 n51 n52 n53 n54 n57 n58 n62 n63 g n ((F_m_readsLine g n rs a li lw la lb).2.1))) s H locs := by first | (rw [hE]; exact hw) | exact hw
        exact k_zret hC hr hlocks rfl hw [16, 17, 0, 1, 2, 3, 4, 5, 6, 7, 8, 9, 10, 11, 12, 13, 14, 15] rfl rfl ⟨by rw [hE], rfl⟩ (by decide) (by decide) dX12_readsLine_105
    · refine lv_aload_n hx hb dX12_readsLine_65 rfl (lv_at hl 1 rfl) ?_
      refine lv_iconst (v := 5) hx hb dX12_readsLine_66 (by decide) ?_
      refine k_V (wr := ((mWa γ z10 z11 z12 z13 z14 z15 z16 z17 z18 z19 z22 z23 a) ++ [(z36, .inl (γ.2.1 0, 6, .inl li)), (z37, .inl (γ.2.1 0, 240, .inl lw)), (z38, .inl (γ.2.1 0, 240, .inl la)), (z39, .inl (γ.2.1 0, 240, .inl lb))])) 1 gw_1421 gw_1423 gp_58 gw_15 gw_1424 hd_X12_fails hC hw (c_m_fails γ l z z2 z10 z11 z12 z13 z14 z15 z16 z17 z18 z19 z22 z23 z24 z25 z26 z27 z28 z29 z30 z31 z32 z33 z36 z37 z38 z39 z40 z41 z42 z43 z44 z45 z46 z47 z48 z55 z56 z59 z60 z61 n0 n1 n49 n50 n51 n52 n53 n54 n57 n58 n62 n63 n g rs 5 hn) ⟨by decide, by decide⟩ ⟨by decide, by decide⟩ hl.1 rfl 16 rfl rfl rfl (Nat.le_of_ble_eq_true rfl) [16, 17] [0, 1, 2, 3, 4, 5, 6, 7, 8, 9, 10, 11, 12, 13, 14, 15] rfl rfl rfl rfl (by decide) dX12_readsLine_67 (fun r w1 H locs hq hw => ?_)
      obtain ⟨rfl, rfl⟩ := hq
      have hw : kW γ A ((mWa γ z10 z11 z12 z13 z14 z15 z16 z17 z18 z19 z22 z23 a) ++ [(z36, .inl (γ.2.1 0, 6, .inl li)), (z37, .inl (γ.2.1 0, 240, .inl lw)), (z38, .inl (γ.2.1 0, 240, .inl la)), (z39, .inl (γ.2.1 0, 240, .inl lb))] ++ (mWz γ z z2 z10 z11 z12 z13 z14 z15 z16 z17 z18 z19 z22 z23 z24 z25 z26 z27 z28 z29 z30 z31 z32 z33 z36 z37 z38 z39 z40 z41 z42 z43 z44 z45 z46 z47 z48 z55 z56 z59 z60 z61 n0 n1 n49 n50 n51 n52 n53 n54 n57 n58 n62 n63 g n (F_m_fails g n rs 5))) s H locs := hw
      refine W.eq (g2 := F0 m 70 ls [.int 0]) rfl ?_
      have hE : (F_m_readsLine g n rs a li lw la lb) = (0, (F_m_fails g n rs 5), li, lw, la, lb) := by unfold F_m_readsLine; rw [if_neg c_449, if_pos c_468]
      have hw : kW γ A ((mWa γ z10 z11 z12 z13 z14 z15 z16 z17 z18 z19 z22 z23 a) ++ [(z36, .inl (γ.2.1 0, 6, .inl ((F_m_readsLine g n rs a li lw la lb).2.2.1))), (z37, .inl (γ.2.1 0, 240, .inl ((F_m_readsLine g n rs a li lw la lb).2.2.2.1))), (z38, .inl (γ.2.1 0, 240, .inl ((F_m_readsLine g n rs a li lw la lb).2.2.2.2.1))), (z39, .inl (γ.2.1 0, 240, .inl ((F_m_readsLine g n rs a li lw la lb).2.2.2.2.2)))] ++ (mWz γ z z2 z10 z11 z12 z13 z14 z15 z16 z17 z18 z19 z22 z23 z24 z25 z26 z27 z28 z29 z30 z31 z32 z33 z36 z37 z38 z39 z40 z41 z42 z43 z44 z45 z46 z47 z48 z55 z56 z59 z60 z61 n0 n1 n49 n50 n51 n52 n53 n54 n57 n58 n62 n63 g n ((F_m_readsLine g n rs a li lw la lb).2.1))) s H locs := by first | (rw [hE]; exact hw) | exact hw
      exact k_zret hC hr hlocks rfl hw [16, 17, 0, 1, 2, 3, 4, 5, 6, 7, 8, 9, 10, 11, 12, 13, 14, 15] rfl rfl ⟨by rw [hE], rfl⟩ (by decide) (by decide) dX12_readsLine_70

theorem okl_readsLine {g : Nat → Int32} {n : Nat} {rs : mRS} {a : mAS} {li lw la lb : Nat → Int32} (hL : 0 ≤ (li 5).toInt ∧ (li 5).toInt ≤ 40) : 0 ≤ ((F_m_readsLine g n rs a li lw la lb).2.2.1 5).toInt ∧ ((F_m_readsLine g n rs a li lw la lb).2.2.1 5).toInt ≤ 40 := by
  unfold F_m_readsLine
  repeat' split
  all_goals first | exact hL | exact up40 hL.1 hL.2 (by assumption)


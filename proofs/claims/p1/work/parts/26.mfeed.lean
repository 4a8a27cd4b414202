theorem dX12_feed_0 : decode cX12_feed 0 = .ok (.aload_n 0, 1) := by decide +kernel
theorem dX12_feed_1 : decode cX12_feed 1 = .ok (.iconst 0, 1) := by decide +kernel
theorem dX12_feed_2 : decode cX12_feed 2 = .ok (.putfield 143, 3) := by decide +kernel
theorem dX12_feed_5 : decode cX12_feed 5 = .ok (.iconst 0, 1) := by decide +kernel
theorem dX12_feed_6 : decode cX12_feed 6 = .ok (.istore 7, 2) := by decide +kernel
theorem dX12_feed_8 : decode cX12_feed 8 = .ok (.iload 7, 2) := by decide +kernel
theorem dX12_feed_10 : decode cX12_feed 10 = .ok (.bipush 24, 2) := by decide +kernel
theorem dX12_feed_12 : decode cX12_feed 12 = .ok (.if_icmp .ge 108, 3) := by decide +kernel
theorem dX12_feed_15 : decode cX12_feed 15 = .ok (.iload 7, 2) := by decide +kernel
theorem dX12_feed_17 : decode cX12_feed 17 = .ok (.bipush 8, 2) := by decide +kernel
theorem dX12_feed_19 : decode cX12_feed 19 = .ok (.if_icmp .ge 7, 3) := by decide +kernel
theorem dX12_feed_22 : decode cX12_feed 22 = .ok (.lload_n 1, 1) := by decide +kernel
theorem dX12_feed_23 : decode cX12_feed 23 = .ok (.goto 16, 3) := by decide +kernel
theorem dX12_feed_26 : decode cX12_feed 26 = .ok (.iload 7, 2) := by decide +kernel
theorem dX12_feed_28 : decode cX12_feed 28 = .ok (.bipush 16, 2) := by decide +kernel
theorem dX12_feed_30 : decode cX12_feed 30 = .ok (.if_icmp .ge 7, 3) := by decide +kernel
theorem dX12_feed_33 : decode cX12_feed 33 = .ok (.lload_n 3, 1) := by decide +kernel
theorem dX12_feed_34 : decode cX12_feed 34 = .ok (.goto 5, 3) := by decide +kernel
theorem dX12_feed_37 : decode cX12_feed 37 = .ok (.lload 5, 2) := by decide +kernel
theorem dX12_feed_39 : decode cX12_feed 39 = .ok (.lstore 8, 2) := by decide +kernel
theorem dX12_feed_41 : decode cX12_feed 41 = .ok (.lload 8, 2) := by decide +kernel
theorem dX12_feed_43 : decode cX12_feed 43 = .ok (.bipush 56, 2) := by decide +kernel
theorem dX12_feed_45 : decode cX12_feed 45 = .ok (.bipush 8, 2) := by decide +kernel
theorem dX12_feed_47 : decode cX12_feed 47 = .ok (.iload 7, 2) := by decide +kernel
theorem dX12_feed_49 : decode cX12_feed 49 = .ok (.bipush 7, 2) := by decide +kernel
theorem dX12_feed_51 : decode cX12_feed 51 = .ok (.iand, 1) := by decide +kernel
theorem dX12_feed_52 : decode cX12_feed 52 = .ok (.imul, 1) := by decide +kernel
theorem dX12_feed_53 : decode cX12_feed 53 = .ok (.isub, 1) := by decide +kernel
theorem dX12_feed_54 : decode cX12_feed 54 = .ok (.lushr, 1) := by decide +kernel
theorem dX12_feed_55 : decode cX12_feed 55 = .ok (.ldc2_w 146, 3) := by decide +kernel
theorem dX12_feed_58 : decode cX12_feed 58 = .ok (.land, 1) := by decide +kernel
theorem dX12_feed_59 : decode cX12_feed 59 = .ok (.l2i, 1) := by decide +kernel
theorem dX12_feed_60 : decode cX12_feed 60 = .ok (.istore 10, 2) := by decide +kernel
theorem dX12_feed_62 : decode cX12_feed 62 = .ok (.aload_n 0, 1) := by decide +kernel
theorem dX12_feed_63 : decode cX12_feed 63 = .ok (.getfield 148, 3) := by decide +kernel
theorem dX12_feed_66 : decode cX12_feed 66 = .ok (.sipush 1000, 3) := by decide +kernel
theorem dX12_feed_69 : decode cX12_feed 69 = .ok (.if_icmp .ge 45, 3) := by decide +kernel
theorem dX12_feed_72 : decode cX12_feed 72 = .ok (.iload 10, 2) := by decide +kernel
theorem dX12_feed_74 : decode cX12_feed 74 = .ok (.bipush 10, 2) := by decide +kernel
theorem dX12_feed_76 : decode cX12_feed 76 = .ok (.if_icmp .eq 17, 3) := by decide +kernel
theorem dX12_feed_79 : decode cX12_feed 79 = .ok (.iload 10, 2) := by decide +kernel
theorem dX12_feed_81 : decode cX12_feed 81 = .ok (.bipush 32, 2) := by decide +kernel
theorem dX12_feed_83 : decode cX12_feed 83 = .ok (.if_icmp .lt 31, 3) := by decide +kernel
theorem dX12_feed_86 : decode cX12_feed 86 = .ok (.iload 10, 2) := by decide +kernel
theorem dX12_feed_88 : decode cX12_feed 88 = .ok (.bipush 126, 2) := by decide +kernel
theorem dX12_feed_90 : decode cX12_feed 90 = .ok (.if_icmp .gt 24, 3) := by decide +kernel
theorem dX12_feed_93 : decode cX12_feed 93 = .ok (.aload_n 0, 1) := by decide +kernel
theorem dX12_feed_94 : decode cX12_feed 94 = .ok (.getfield 7, 3) := by decide +kernel
theorem dX12_feed_97 : decode cX12_feed 97 = .ok (.aload_n 0, 1) := by decide +kernel
theorem dX12_feed_98 : decode cX12_feed 98 = .ok (.getfield 148, 3) := by decide +kernel
theorem dX12_feed_101 : decode cX12_feed 101 = .ok (.iload 10, 2) := by decide +kernel
theorem dX12_feed_103 : decode cX12_feed 103 = .ok (.iastore, 1) := by decide +kernel
theorem dX12_feed_104 : decode cX12_feed 104 = .ok (.aload_n 0, 1) := by decide +kernel
theorem dX12_feed_105 : decode cX12_feed 105 = .ok (.dup, 1) := by decide +kernel
theorem dX12_feed_106 : decode cX12_feed 106 = .ok (.getfield 148, 3) := by decide +kernel
theorem dX12_feed_109 : decode cX12_feed 109 = .ok (.iconst 1, 1) := by decide +kernel
theorem dX12_feed_110 : decode cX12_feed 110 = .ok (.iadd, 1) := by decide +kernel
theorem dX12_feed_111 : decode cX12_feed 111 = .ok (.putfield 148, 3) := by decide +kernel
theorem dX12_feed_114 : decode cX12_feed 114 = .ok (.iinc 7 1, 3) := by decide +kernel
theorem dX12_feed_117 : decode cX12_feed 117 = .ok (.goto (-109), 3) := by decide +kernel
theorem dX12_feed_120 : decode cX12_feed 120 = .ok (.aload_n 0, 1) := by decide +kernel
theorem dX12_feed_121 : decode cX12_feed 121 = .ok (.getfield 148, 3) := by decide +kernel
theorem dX12_feed_124 : decode cX12_feed 124 = .ok (.ireturn, 1) := by decide +kernel
set_option maxHeartbeats 4000000 in
set_option maxRecDepth 100000 in
theorem mf_24 {γ : kΓ} {l : Launch} {p : Program} {e : Env} {s : State} {m : MethodId} {below : List Frame} {meth : Method} {c : Code} {A : Nat → Prop} (z : Nat) (z2 : Nat) (z10 : Nat) (z11 : Nat) (z12 : Nat) (z13 : Nat) (z14 : Nat) (z15 : Nat) (z16 : Nat) (z17 : Nat) (z18 : Nat) (z19 : Nat) (z22 : Nat) (z23 : Nat) (z24 : Nat) (z25 : Nat) (z26 : Nat) (z27 : Nat) (z28 : Nat) (z29 : Nat) (z30 : Nat) (z31 : Nat) (z32 : Nat) (z33 : Nat) (z36 : Nat) (z37 : Nat) (z38 : Nat) (z39 : Nat) (z40 : Nat) (z41 : Nat) (z42 : Nat) (z43 : Nat) (z44 : Nat) (z45 : Nat) (z46 : Nat) (z47 : Nat) (z48 : Nat) (z55 : Nat) (z56 : Nat) (z59 : Nat) (z60 : Nat) (z61 : Nat) (va : Int64) (vb : Int64) (vc : Int64) (n : Nat) (f : Nat → Int32) (hn : n ≤ 1000) (F : Nat) (hF : kad vc 0 n = F) (hC : kC γ p s m [.ref z, .long va, .long vb, .long vc].toArray c cX12_feed 11 RX12 A) (hr : meth.sig.returnType = (some .int)) (hlocks : meth.locks = false) (H : Heap) (locs : List Loc) (hw : kW γ A [(z, .inr (11, [.int 0, .int (nI n), .ref z2, .int 0, .int 0, .int 0, .int 0, .long 0, .int 0, .int 0, .ref z10, .ref z11, .ref z12, .ref z13, .ref z14, .ref z15, .ref z16, .ref z17, .ref z18, .ref z19, .int 0, .int 0, .ref z22, .ref z23, .ref z24, .ref z25, .ref z26, .ref z27, .ref z28, .ref z29, .ref z30, .ref z31, .ref z32, .ref z33, .int 0, .long 0, .ref z36, .ref z37, .ref z38, .ref z39, .ref z40, .ref z41, .ref z42, .ref z43, .ref z44, .ref z45, .ref z46, .ref z47, .ref z48, .int 0, .int 10, .int 0, .int 0, .int 0, .int 0, .ref z55, .ref z56, .int 0, .int 0, .ref z59, .ref z60, .ref z61, .int 0, .long 0])), (z2, .inl (γ.2.1 0, 1000, .inl f))] s H locs) (ls : Array Slot) (hl : lv_has ls 11 [(7, .int 24), (0, .ref z), (1, .long va), (3, .long vb), (5, .long vc)]) : W p l e ({ frames := 0, cells := 0, slots := 0, locals := 0 } : Room) s m [.ref z, .long va, .long vb, .long vc].toArray below meth c H locs 0 0 (MQ below (kQ γ A (fun r w1 => r = some (.int (nI F)) ∧ w1 = [])) [.ref z, .long va, .long vb, .long vc].toArray s 0 0 A) (F0 m 8 ls []) := by
  have hx := hC.1
  have hb := hC.2.1
  have hF9 : n = F := hF
  subst hF9
  refine lv_iload hx hb dX12_feed_8 (lv_at hl 0 rfl) ?_
  refine lv_bipush (v := 24) hx hb dX12_feed_10 (by decide) ?_
  refine lv_icmp_ge (tgt := 120) hx hb dX12_feed_12 (by decide) (fun _ => ?_) (fun h => absurd (by decide) h)
  refine lv_aload_n hx hb dX12_feed_120 rfl (lv_at hl 1 rfl) ?_
  refine fg_RX12_148 hC hw 0 rfl rfl dX12_feed_121 ?_
  exact k_iret hC hr hlocks hw [] rfl rfl ⟨rfl, rfl⟩ (by decide) (by decide) dX12_feed_124

set_option maxHeartbeats 4000000 in
set_option maxRecDepth 100000 in
theorem mf_23 {γ : kΓ} {l : Launch} {p : Program} {e : Env} {s : State} {m : MethodId} {below : List Frame} {meth : Method} {c : Code} {A : Nat → Prop} (z : Nat) (z2 : Nat) (z10 : Nat) (z11 : Nat) (z12 : Nat) (z13 : Nat) (z14 : Nat) (z15 : Nat) (z16 : Nat) (z17 : Nat) (z18 : Nat) (z19 : Nat) (z22 : Nat) (z23 : Nat) (z24 : Nat) (z25 : Nat) (z26 : Nat) (z27 : Nat) (z28 : Nat) (z29 : Nat) (z30 : Nat) (z31 : Nat) (z32 : Nat) (z33 : Nat) (z36 : Nat) (z37 : Nat) (z38 : Nat) (z39 : Nat) (z40 : Nat) (z41 : Nat) (z42 : Nat) (z43 : Nat) (z44 : Nat) (z45 : Nat) (z46 : Nat) (z47 : Nat) (z48 : Nat) (z55 : Nat) (z56 : Nat) (z59 : Nat) (z60 : Nat) (z61 : Nat) (va : Int64) (vb : Int64) (vc : Int64) (n : Nat) (f : Nat → Int32) (hn : n ≤ 1000) (F : Nat) (hF : kad vc 1 n = F) (hC : kC γ p s m [.ref z, .long va, .long vb, .long vc].toArray c cX12_feed 11 RX12 A) (hr : meth.sig.returnType = (some .int)) (hlocks : meth.locks = false) (H : Heap) (locs : List Loc) (hw : kW γ A [(z, .inr (11, [.int 0, .int (nI n), .ref z2, .int 0, .int 0, .int 0, .int 0, .long 0, .int 0, .int 0, .ref z10, .ref z11, .ref z12, .ref z13, .ref z14, .ref z15, .ref z16, .ref z17, .ref z18, .ref z19, .int 0, .int 0, .ref z22, .ref z23, .ref z24, .ref z25, .ref z26, .ref z27, .ref z28, .ref z29, .ref z30, .ref z31, .ref z32, .ref z33, .int 0, .long 0, .ref z36, .ref z37, .ref z38, .ref z39, .ref z40, .ref z41, .ref z42, .ref z43, .ref z44, .ref z45, .ref z46, .ref z47, .ref z48, .int 0, .int 10, .int 0, .int 0, .int 0, .int 0, .ref z55, .ref z56, .int 0, .int 0, .ref z59, .ref z60, .ref z61, .int 0, .long 0])), (z2, .inl (γ.2.1 0, 1000, .inl f))] s H locs) (ls : Array Slot) (hl : lv_has ls 11 [(7, .int 23), (0, .ref z), (1, .long va), (3, .long vb), (5, .long vc)]) : W p l e ({ frames := 0, cells := 0, slots := 0, locals := 0 } : Room) s m [.ref z, .long va, .long vb, .long vc].toArray below meth c H locs 0 0 (MQ below (kQ γ A (fun r w1 => r = some (.int (nI F)) ∧ w1 = [])) [.ref z, .long va, .long vb, .long vc].toArray s 0 0 A) (F0 m 8 ls []) := by
  have hx := hC.1
  have hb := hC.2.1
  refine lv_iload hx hb dX12_feed_8 (lv_at hl 0 rfl) ?_
  refine lv_bipush (v := 24) hx hb dX12_feed_10 (by decide) ?_
  refine lv_icmp_ge (tgt := 120) hx hb dX12_feed_12 (by decide) (fun h => absurd h (by decide)) (fun _ => ?_)
  refine lv_iload hx hb dX12_feed_15 (lv_at hl 0 rfl) ?_
  refine lv_bipush (v := 8) hx hb dX12_feed_17 (by decide) ?_
  refine lv_icmp_ge (tgt := 26) hx hb dX12_feed_19 (by decide) (fun _ => ?_) (fun h => absurd (by decide) h)
  refine lv_iload hx hb dX12_feed_26 (lv_at hl 0 rfl) ?_
  refine lv_bipush (v := 16) hx hb dX12_feed_28 (by decide) ?_
  refine lv_icmp_ge (tgt := 37) hx hb dX12_feed_30 (by decide) (fun _ => ?_) (fun h => absurd (by decide) h)
  refine lv_lload hx hb dX12_feed_37 (lv_at hl 4 rfl) ?_
  refine lv_lstore (lv' := [(8, .long vc), (7, .int 23), (0, .ref z), (1, .long va), (3, .long vb), (5, .long vc)]) hx hb dX12_feed_39 hl (by decide) rfl (fun ls hl => ?_)
  refine lv_lload hx hb dX12_feed_41 (lv_at hl 0 rfl) ?_
  refine lv_bipush (v := 56) hx hb dX12_feed_43 (by decide) ?_
  refine lv_bipush (v := 8) hx hb dX12_feed_45 (by decide) ?_
  refine lv_iload hx hb dX12_feed_47 (lv_at hl 1 rfl) ?_
  refine lv_bipush (v := 7) hx hb dX12_feed_49 (by decide) ?_
  refine lv_iand hx hb dX12_feed_51 ?_
  refine lv_topi (fun x_1465 ex_1465 => ?_)
  obtain rfl : x_1465 = 7 := ex_1465.trans (by decide)
  refine lv_imul hx hb dX12_feed_52 ?_
  refine lv_topi (fun x_1466 ex_1466 => ?_)
  obtain rfl : x_1466 = 56 := ex_1466.trans (by decide)
  refine lv_isub hx hb dX12_feed_53 ?_
  refine lv_topi (fun x_1467 ex_1467 => ?_)
  obtain rfl : x_1467 = 0 := ex_1467.trans (by decide)
  refine lv_lushr hx hb dX12_feed_54 rfl ?_
  refine lv_topl (fun x_1468 ex_1468 => ?_)
  refine k_ldc2 hC gw_1393 dX12_feed_55 ?_
  refine lv_land hx hb dX12_feed_58 ?_
  refine lv_topl (fun x_1469 ex_1469 => ?_)
  refine lv_l2i hx hb dX12_feed_59 rfl ?_
  refine lv_topi (fun x_1470 ex_1470 => ?_)
  refine lv_istore (lv' := [(10, .int x_1470), (8, .long vc), (7, .int 23), (0, .ref z), (1, .long va), (3, .long vb), (5, .long vc)]) hx hb dX12_feed_60 hl (by decide) rfl (fun ls hl => ?_)
  have hk : x_1470 = kby vc 0 := by rw [ex_1470, ex_1469, k_land, ex_1468]; rfl
  refine lv_aload_n hx hb dX12_feed_62 rfl (lv_at hl 3 rfl) ?_
  refine fg_RX12_148 hC hw 0 rfl rfl dX12_feed_63 ?_
  refine lv_sipush (v := 1000) hx hb dX12_feed_66 (by decide) ?_
  refine lv_icmp_ge (tgt := 114) hx hb dX12_feed_69 (by decide) (fun c69 => ?_) (fun c69 => ?_)
  · have hfull : ¬ n < 1000 := fun h9 => absurd c69 (nI_ge h9 (by decide))
    refine lv_iinc (v := 24) (lv' := [(7, .int 24), (10, .int x_1470), (8, .long vc), (0, .ref z), (1, .long va), (3, .long vb), (5, .long vc)]) hx hb dX12_feed_114 hl (k := 2) rfl (by decide) (by decide) rfl (fun ls hl => ?_)
    refine lv_goto (tgt := 8) hx hb dX12_feed_117 (by decide) ?_
    have hst : kst n (kby vc 0) = n := by rw [← hk]; exact (by first | exact kst_full hfull | exact kst_a c76 hlt | exact kst_b c83 c90 hlt | exact kst_lo c76 c83 | exact kst_hi c76 c90)
    exact mf_24 z z2 z10 z11 z12 z13 z14 z15 z16 z17 z18 z19 z22 z23 z24 z25 z26 z27 z28 z29 z30 z31 z32 z33 z36 z37 z38 z39 z40 z41 z42 z43 z44 z45 z46 z47 z48 z55 z56 z59 z60 z61 va vb vc n f (by omega) F (by have h9 : kad vc 0 (kst n (kby vc 0)) = F := hF; rw [hst] at h9; exact h9) hC hr hlocks _ _ (kW.sub hw [0, 1] rfl rfl) _ (lv_sub hl [0, 3, 4, 5, 6] rfl)
  · have hlt : n < 1000 := by rcases Nat.lt_or_ge n 1000 with h9 | h9; exact h9; exact absurd (nI_le h9 (by omega)) c69
    refine lv_iload hx hb dX12_feed_72 (lv_at hl 0 rfl) ?_
    refine lv_bipush (v := 10) hx hb dX12_feed_74 (by decide) ?_
    refine lv_icmp_eq (tgt := 93) hx hb dX12_feed_76 (by decide) (fun c76 => ?_) (fun c76 => ?_)
    · refine lv_aload_n hx hb dX12_feed_93 rfl (lv_at hl 3 rfl) ?_
      refine fg_RX12_7 hC hw 0 rfl rfl dX12_feed_94 ?_
      refine lv_aload_n hx hb dX12_feed_97 rfl (lv_at hl 3 rfl) ?_
      refine fg_RX12_148 hC hw 0 rfl rfl dX12_feed_98 ?_
      refine lv_iload hx hb dX12_feed_101 (lv_at hl 0 rfl) ?_
      refine k_iast hC hw 1 rfl (vp_in_nI hlt (by decide)) dX12_feed_103 (fun H locs hw => ?_)
      obtain ⟨f_1471, ef_1471⟩ : ∃ g, g = upd f ((nI n) : Int32).toNatClampNeg x_1470 := ⟨_, rfl⟩
      have hw : kW γ A [(z, .inr (11, [.int 0, .int (nI n), .ref z2, .int 0, .int 0, .int 0, .int 0, .long 0, .int 0, .int 0, .ref z10, .ref z11, .ref z12, .ref z13, .ref z14, .ref z15, .ref z16, .ref z17, .ref z18, .ref z19, .int 0, .int 0, .ref z22, .ref z23, .ref z24, .ref z25, .ref z26, .ref z27, .ref z28, .ref z29, .ref z30, .ref z31, .ref z32, .ref z33, .int 0, .long 0, .ref z36, .ref z37, .ref z38, .ref z39, .ref z40, .ref z41, .ref z42, .ref z43, .ref z44, .ref z45, .ref z46, .ref z47, .ref z48, .int 0, .int 10, .int 0, .int 0, .int 0, .int 0, .ref z55, .ref z56, .int 0, .int 0, .ref z59, .ref z60, .ref z61, .int 0, .long 0])), (z2, .inl (γ.2.1 0, 1000, .inl f_1471))] s H locs := by rw [ef_1471]; exact hw
      refine lv_aload_n hx hb dX12_feed_104 rfl (lv_at hl 3 rfl) ?_
      refine lv_dup hx hb dX12_feed_105 rfl ?_
      refine fg_RX12_148 hC hw 0 rfl rfl dX12_feed_106 ?_
      refine lv_iconst (v := 1) hx hb dX12_feed_109 (by decide) ?_
      refine lv_iadd hx hb dX12_feed_110 ?_
      refine lv_topi (fun x_1472 ex_1472 => ?_)
      obtain rfl : x_1472 = (nI (n + 1)) := ex_1472.trans (nI_1 n)
      refine fs_RX12_148 hC hw 0 rfl rfl rfl (Nat.le_of_ble_eq_true rfl) dX12_feed_111 (fun H locs hw => ?_)
      have hw : kW γ A [(z, .inr (11, [.int 0, .int (nI (n + 1)), .ref z2, .int 0, .int 0, .int 0, .int 0, .long 0, .int 0, .int 0, .ref z10, .ref z11, .ref z12, .ref z13, .ref z14, .ref z15, .ref z16, .ref z17, .ref z18, .ref z19, .int 0, .int 0, .ref z22, .ref z23, .ref z24, .ref z25, .ref z26, .ref z27, .ref z28, .ref z29, .ref z30, .ref z31, .ref z32, .ref z33, .int 0, .long 0, .ref z36, .ref z37, .ref z38, .ref z39, .ref z40, .ref z41, .ref z42, .ref z43, .ref z44, .ref z45, .ref z46, .ref z47, .ref z48, .int 0, .int 10, .int 0, .int 0, .int 0, .int 0, .ref z55, .ref z56, .int 0, .int 0, .ref z59, .ref z60, .ref z61, .int 0, .long 0])), (z2, .inl (γ.2.1 0, 1000, .inl f_1471))] s H locs := hw
      refine lv_iinc (v := 24) (lv' := [(7, .int 24), (10, .int x_1470), (8, .long vc), (0, .ref z), (1, .long va), (3, .long vb), (5, .long vc)]) hx hb dX12_feed_114 hl (k := 2) rfl (by decide) (by decide) rfl (fun ls hl => ?_)
      refine lv_goto (tgt := 8) hx hb dX12_feed_117 (by decide) ?_
      have hst : kst n (kby vc 0) = (n + 1) := by rw [← hk]; exact (by first | exact kst_full hfull | exact kst_a c76 hlt | exact kst_b c83 c90 hlt | exact kst_lo c76 c83 | exact kst_hi c76 c90)
      exact mf_24 z z2 z10 z11 z12 z13 z14 z15 z16 z17 z18 z19 z22 z23 z24 z25 z26 z27 z28 z29 z30 z31 z32 z33 z36 z37 z38 z39 z40 z41 z42 z43 z44 z45 z46 z47 z48 z55 z56 z59 z60 z61 va vb vc (n + 1) f_1471 (by omega) F (by have h9 : kad vc 0 (kst n (kby vc 0)) = F := hF; rw [hst] at h9; exact h9) hC hr hlocks _ _ (kW.sub hw [0, 1] rfl rfl) _ (lv_sub hl [0, 3, 4, 5, 6] rfl)
    · refine lv_iload hx hb dX12_feed_79 (lv_at hl 0 rfl) ?_
      refine lv_bipush (v := 32) hx hb dX12_feed_81 (by decide) ?_
      refine lv_icmp_lt (tgt := 114) hx hb dX12_feed_83 (by decide) (fun c83 => ?_) (fun c83 => ?_)
      · refine lv_iinc (v := 24) (lv' := [(7, .int 24), (10, .int x_1470), (8, .long vc), (0, .ref z), (1, .long va), (3, .long vb), (5, .long vc)]) hx hb dX12_feed_114 hl (k := 2) rfl (by decide) (by decide) rfl (fun ls hl => ?_)
        refine lv_goto (tgt := 8) hx hb dX12_feed_117 (by decide) ?_
        have hst : kst n (kby vc 0) = n := by rw [← hk]; exact (by first | exact kst_full hfull | exact kst_a c76 hlt | exact kst_b c83 c90 hlt | exact kst_lo c76 c83 | exact kst_hi c76 c90)
        exact mf_24 z z2 z10 z11 z12 z13 z14 z15 z16 z17 z18 z19 z22 z23 z24 z25 z26 z27 z28 z29 z30 z31 z32 z33 z36 z37 z38 z39 z40 z41 z42 z43 z44 z45 z46 z47 z48 z55 z56 z59 z60 z61 va vb vc n f (by omega) F (by have h9 : kad vc 0 (kst n (kby vc 0)) = F := hF; rw [hst] at h9; exact h9) hC hr hlocks _ _ (kW.sub hw [0, 1] rfl rfl) _ (lv_sub hl [0, 3, 4, 5, 6] rfl)
      · refine lv_iload hx hb dX12_feed_86 (lv_at hl 0 rfl) ?_
        refine lv_bipush (v := 126) hx hb dX12_feed_88 (by decide) ?_
        refine lv_icmp_gt (tgt := 114) hx hb dX12_feed_90 (by decide) (fun c90 => ?_) (fun c90 => ?_)
        · refine lv_iinc (v := 24) (lv' := [(7, .int 24), (10, .int x_1470), (8, .long vc), (0, .ref z), (1, .long va), (3, .long vb), (5, .long vc)]) hx hb dX12_feed_114 hl (k := 2) rfl (by decide) (by decide) rfl (fun ls hl => ?_)
          refine lv_goto (tgt := 8) hx hb dX12_feed_117 (by decide) ?_
          have hst : kst n (kby vc 0) = n := by rw [← hk]; exact (by first | exact kst_full hfull | exact kst_a c76 hlt | exact kst_b c83 c90 hlt | exact kst_lo c76 c83 | exact kst_hi c76 c90)
          exact mf_24 z z2 z10 z11 z12 z13 z14 z15 z16 z17 z18 z19 z22 z23 z24 z25 z26 z27 z28 z29 z30 z31 z32 z33 z36 z37 z38 z39 z40 z41 z42 z43 z44 z45 z46 z47 z48 z55 z56 z59 z60 z61 va vb vc n f (by omega) F (by have h9 : kad vc 0 (kst n (kby vc 0)) = F := hF; rw [hst] at h9; exact h9) hC hr hlocks _ _ (kW.sub hw [0, 1] rfl rfl) _ (lv_sub hl [0, 3, 4, 5, 6] rfl)
        · refine lv_aload_n hx hb dX12_feed_93 rfl (lv_at hl 3 rfl) ?_
          refine fg_RX12_7 hC hw 0 rfl rfl dX12_feed_94 ?_
          refine lv_aload_n hx hb dX12_feed_97 rfl (lv_at hl 3 rfl) ?_
          refine fg_RX12_148 hC hw 0 rfl rfl dX12_feed_98 ?_
          refine lv_iload hx hb dX12_feed_101 (lv_at hl 0 rfl) ?_
          refine k_iast hC hw 1 rfl (vp_in_nI hlt (by decide)) dX12_feed_103 (fun H locs hw => ?_)
          obtain ⟨f_1473, ef_1473⟩ : ∃ g, g = upd f ((nI n) : Int32).toNatClampNeg x_1470 := ⟨_, rfl⟩
          have hw : kW γ A [(z, .inr (11, [.int 0, .int (nI n), .ref z2, .int 0, .int 0, .int 0, .int 0, .long 0, .int 0, .int 0, .ref z10, .ref z11, .ref z12, .ref z13, .ref z14, .ref z15, .ref z16, .ref z17, .ref z18, .ref z19, .int 0, .int 0, .ref z22, .ref z23, .ref z24, .ref z25, .ref z26, .ref z27, .ref z28, .ref z29, .ref z30, .ref z31, .ref z32, .ref z33, .int 0, .long 0, .ref z36, .ref z37, .ref z38, .ref z39, .ref z40, .ref z41, .ref z42, .ref z43, .ref z44, .ref z45, .ref z46, .ref z47, .ref z48, .int 0, .int 10, .int 0, .int 0, .int 0, .int 0, .ref z55, .ref z56, .int 0, .int 0, .ref z59, .ref z60, .ref z61, .int 0, .long 0])), (z2, .inl (γ.2.1 0, 1000, .inl f_1473))] s H locs := by rw [ef_1473]; exact hw
          refine lv_aload_n hx hb dX12_feed_104 rfl (lv_at hl 3 rfl) ?_
          refine lv_dup hx hb dX12_feed_105 rfl ?_
          refine fg_RX12_148 hC hw 0 rfl rfl dX12_feed_106 ?_
          refine lv_iconst (v := 1) hx hb dX12_feed_109 (by decide) ?_
          refine lv_iadd hx hb dX12_feed_110 ?_
          refine lv_topi (fun x_1474 ex_1474 => ?_)
          obtain rfl : x_1474 = (nI (n + 1)) := ex_1474.trans (nI_1 n)
          refine fs_RX12_148 hC hw 0 rfl rfl rfl (Nat.le_of_ble_eq_true rfl) dX12_feed_111 (fun H locs hw => ?_)
          have hw : kW γ A [(z, .inr (11, [.int 0, .int (nI (n + 1)), .ref z2, .int 0, .int 0, .int 0, .int 0, .long 0, .int 0, .int 0, .ref z10, .ref z11, .ref z12, .ref z13, .ref z14, .ref z15, .ref z16, .ref z17, .ref z18, .ref z19, .int 0, .int 0, .ref z22, .ref z23, .ref z24, .ref z25, .ref z26, .ref z27, .ref z28, .ref z29, .ref z30, .ref z31, .ref z32, .ref z33, .int 0, .long 0, .ref z36, .ref z37, .ref z38, .ref z39, .ref z40, .ref z41, .ref z42, .ref z43, .ref z44, .ref z45, .ref z46, .ref z47, .ref z48, .int 0, .int 10, .int 0, .int 0, .int 0, .int 0, .ref z55, .ref z56, .int 0, .int 0, .ref z59, .ref z60, .ref z61, .int 0, .long 0])), (z2, .inl (γ.2.1 0, 1000, .inl f_1473))] s H locs := hw
          refine lv_iinc (v := 24) (lv' := [(7, .int 24), (10, .int x_1470), (8, .long vc), (0, .ref z), (1, .long va), (3, .long vb), (5, .long vc)]) hx hb dX12_feed_114 hl (k := 2) rfl (by decide) (by decide) rfl (fun ls hl => ?_)
          refine lv_goto (tgt := 8) hx hb dX12_feed_117 (by decide) ?_
          have hst : kst n (kby vc 0) = (n + 1) := by rw [← hk]; exact (by first | exact kst_full hfull | exact kst_a c76 hlt | exact kst_b c83 c90 hlt | exact kst_lo c76 c83 | exact kst_hi c76 c90)
          exact mf_24 z z2 z10 z11 z12 z13 z14 z15 z16 z17 z18 z19 z22 z23 z24 z25 z26 z27 z28 z29 z30 z31 z32 z33 z36 z37 z38 z39 z40 z41 z42 z43 z44 z45 z46 z47 z48 z55 z56 z59 z60 z61 va vb vc (n + 1) f_1473 (by omega) F (by have h9 : kad vc 0 (kst n (kby vc 0)) = F := hF; rw [hst] at h9; exact h9) hC hr hlocks _ _ (kW.sub hw [0, 1] rfl rfl) _ (lv_sub hl [0, 3, 4, 5, 6] rfl)

set_option maxHeartbeats 4000000 in
set_option maxRecDepth 100000 in
theorem mf_22 {γ : kΓ} {l : Launch} {p : Program} {e : Env} {s : State} {m : MethodId} {below : List Frame} {meth : Method} {c : Code} {A : Nat → Prop} (z : Nat) (z2 : Nat) (z10 : Nat) (z11 : Nat) (z12 : Nat) (z13 : Nat) (z14 : Nat) (z15 : Nat) (z16 : Nat) (z17 : Nat) (z18 : Nat) (z19 : Nat) (z22 : Nat) (z23 : Nat) (z24 : Nat) (z25 : Nat) (z26 : Nat) (z27 : Nat) (z28 : Nat) (z29 : Nat) (z30 : Nat) (z31 : Nat) (z32 : Nat) (z33 : Nat) (z36 : Nat) (z37 : Nat) (z38 : Nat) (z39 : Nat) (z40 : Nat) (z41 : Nat) (z42 : Nat) (z43 : Nat) (z44 : Nat) (z45 : Nat) (z46 : Nat) (z47 : Nat) (z48 : Nat) (z55 : Nat) (z56 : Nat) (z59 : Nat) (z60 : Nat) (z61 : Nat) (va : Int64) (vb : Int64) (vc : Int64) (n : Nat) (f : Nat → Int32) (hn : n ≤ 1000) (F : Nat) (hF : kad vc 2 n = F) (hC : kC γ p s m [.ref z, .long va, .long vb, .long vc].toArray c cX12_feed 11 RX12 A) (hr : meth.sig.returnType = (some .int)) (hlocks : meth.locks = false) (H : Heap) (locs : List Loc) (hw : kW γ A [(z, .inr (11, [.int 0, .int (nI n), .ref z2, .int 0, .int 0, .int 0, .int 0, .long 0, .int 0, .int 0, .ref z10, .ref z11, .ref z12, .ref z13, .ref z14, .ref z15, .ref z16, .ref z17, .ref z18, .ref z19, .int 0, .int 0, .ref z22, .ref z23, .ref z24, .ref z25, .ref z26, .ref z27, .ref z28, .ref z29, .ref z30, .ref z31, .ref z32, .ref z33, .int 0, .long 0, .ref z36, .ref z37, .ref z38, .ref z39, .ref z40, .ref z41, .ref z42, .ref z43, .ref z44, .ref z45, .ref z46, .ref z47, .ref z48, .int 0, .int 10, .int 0, .int 0, .int 0, .int 0, .ref z55, .ref z56, .int 0, .int 0, .ref z59, .ref z60, .ref z61, .int 0, .long 0])), (z2, .inl (γ.2.1 0, 1000, .inl f))] s H locs) (ls : Array Slot) (hl : lv_has ls 11 [(7, .int 22), (0, .ref z), (1, .long va), (3, .long vb), (5, .long vc)]) : W p l e ({ frames := 0, cells := 0, slots := 0, locals := 0 } : Room) s m [.ref z, .long va, .long vb, .long vc].toArray below meth c H locs 0 0 (MQ below (kQ γ A (fun r w1 => r = some (.int (nI F)) ∧ w1 = [])) [.ref z, .long va, .long vb, .long vc].toArray s 0 0 A) (F0 m 8 ls []) := by
  have hx := hC.1
  have hb := hC.2.1
  refine lv_iload hx hb dX12_feed_8 (lv_at hl 0 rfl) ?_
  refine lv_bipush (v := 24) hx hb dX12_feed_10 (by decide) ?_
  refine lv_icmp_ge (tgt := 120) hx hb dX12_feed_12 (by decide) (fun h => absurd h (by decide)) (fun _ => ?_)
  refine lv_iload hx hb dX12_feed_15 (lv_at hl 0 rfl) ?_
  refine lv_bipush (v := 8) hx hb dX12_feed_17 (by decide) ?_
  refine lv_icmp_ge (tgt := 26) hx hb dX12_feed_19 (by decide) (fun _ => ?_) (fun h => absurd (by decide) h)
  refine lv_iload hx hb dX12_feed_26 (lv_at hl 0 rfl) ?_
  refine lv_bipush (v := 16) hx hb dX12_feed_28 (by decide) ?_
  refine lv_icmp_ge (tgt := 37) hx hb dX12_feed_30 (by decide) (fun _ => ?_) (fun h => absurd (by decide) h)
  refine lv_lload hx hb dX12_feed_37 (lv_at hl 4 rfl) ?_
  refine lv_lstore (lv' := [(8, .long vc), (7, .int 22), (0, .ref z), (1, .long va), (3, .long vb), (5, .long vc)]) hx hb dX12_feed_39 hl (by decide) rfl (fun ls hl => ?_)
  refine lv_lload hx hb dX12_feed_41 (lv_at hl 0 rfl) ?_
  refine lv_bipush (v := 56) hx hb dX12_feed_43 (by decide) ?_
  refine lv_bipush (v := 8) hx hb dX12_feed_45 (by decide) ?_
  refine lv_iload hx hb dX12_feed_47 (lv_at hl 1 rfl) ?_
  refine lv_bipush (v := 7) hx hb dX12_feed_49 (by decide) ?_
  refine lv_iand hx hb dX12_feed_51 ?_
  refine lv_topi (fun x_1475 ex_1475 => ?_)
  obtain rfl : x_1475 = 6 := ex_1475.trans (by decide)
  refine lv_imul hx hb dX12_feed_52 ?_
  refine lv_topi (fun x_1476 ex_1476 => ?_)
  obtain rfl : x_1476 = 48 := ex_1476.trans (by decide)
  refine lv_isub hx hb dX12_feed_53 ?_
  refine lv_topi (fun x_1477 ex_1477 => ?_)
  obtain rfl : x_1477 = 8 := ex_1477.trans (by decide)
  refine lv_lushr hx hb dX12_feed_54 rfl ?_
  refine lv_topl (fun x_1478 ex_1478 => ?_)
  refine k_ldc2 hC gw_1393 dX12_feed_55 ?_
  refine lv_land hx hb dX12_feed_58 ?_
  refine lv_topl (fun x_1479 ex_1479 => ?_)
  refine lv_l2i hx hb dX12_feed_59 rfl ?_
  refine lv_topi (fun x_1480 ex_1480 => ?_)
  refine lv_istore (lv' := [(10, .int x_1480), (8, .long vc), (7, .int 22), (0, .ref z), (1, .long va), (3, .long vb), (5, .long vc)]) hx hb dX12_feed_60 hl (by decide) rfl (fun ls hl => ?_)
  have hk : x_1480 = kby vc 8 := by rw [ex_1480, ex_1479, k_land, ex_1478]; rfl
  refine lv_aload_n hx hb dX12_feed_62 rfl (lv_at hl 3 rfl) ?_
  refine fg_RX12_148 hC hw 0 rfl rfl dX12_feed_63 ?_
  refine lv_sipush (v := 1000) hx hb dX12_feed_66 (by decide) ?_
  refine lv_icmp_ge (tgt := 114) hx hb dX12_feed_69 (by decide) (fun c69 => ?_) (fun c69 => ?_)
  · have hfull : ¬ n < 1000 := fun h9 => absurd c69 (nI_ge h9 (by decide))
    refine lv_iinc (v := 23) (lv' := [(7, .int 23), (10, .int x_1480), (8, .long vc), (0, .ref z), (1, .long va), (3, .long vb), (5, .long vc)]) hx hb dX12_feed_114 hl (k := 2) rfl (by decide) (by decide) rfl (fun ls hl => ?_)
    refine lv_goto (tgt := 8) hx hb dX12_feed_117 (by decide) ?_
    have hst : kst n (kby vc 8) = n := by rw [← hk]; exact (by first | exact kst_full hfull | exact kst_a c76 hlt | exact kst_b c83 c90 hlt | exact kst_lo c76 c83 | exact kst_hi c76 c90)
    exact mf_23 z z2 z10 z11 z12 z13 z14 z15 z16 z17 z18 z19 z22 z23 z24 z25 z26 z27 z28 z29 z30 z31 z32 z33 z36 z37 z38 z39 z40 z41 z42 z43 z44 z45 z46 z47 z48 z55 z56 z59 z60 z61 va vb vc n f (by omega) F (by have h9 : kad vc 1 (kst n (kby vc 8)) = F := hF; rw [hst] at h9; exact h9) hC hr hlocks _ _ (kW.sub hw [0, 1] rfl rfl) _ (lv_sub hl [0, 3, 4, 5, 6] rfl)
  · have hlt : n < 1000 := by rcases Nat.lt_or_ge n 1000 with h9 | h9; exact h9; exact absurd (nI_le h9 (by omega)) c69
    refine lv_iload hx hb dX12_feed_72 (lv_at hl 0 rfl) ?_
    refine lv_bipush (v := 10) hx hb dX12_feed_74 (by decide) ?_
    refine lv_icmp_eq (tgt := 93) hx hb dX12_feed_76 (by decide) (fun c76 => ?_) (fun c76 => ?_)
    · refine lv_aload_n hx hb dX12_feed_93 rfl (lv_at hl 3 rfl) ?_
      refine fg_RX12_7 hC hw 0 rfl rfl dX12_feed_94 ?_
      refine lv_aload_n hx hb dX12_feed_97 rfl (lv_at hl 3 rfl) ?_
      refine fg_RX12_148 hC hw 0 rfl rfl dX12_feed_98 ?_
      refine lv_iload hx hb dX12_feed_101 (lv_at hl 0 rfl) ?_
      refine k_iast hC hw 1 rfl (vp_in_nI hlt (by decide)) dX12_feed_103 (fun H locs hw => ?_)
      obtain ⟨f_1481, ef_1481⟩ : ∃ g, g = upd f ((nI n) : Int32).toNatClampNeg x_1480 := ⟨_, rfl⟩
      have hw : kW γ A [(z, .inr (11, [.int 0, .int (nI n), .ref z2, .int 0, .int 0, .int 0, .int 0, .long 0, .int 0, .int 0, .ref z10, .ref z11, .ref z12, .ref z13, .ref z14, .ref z15, .ref z16, .ref z17, .ref z18, .ref z19, .int 0, .int 0, .ref z22, .ref z23, .ref z24, .ref z25, .ref z26, .ref z27, .ref z28, .ref z29, .ref z30, .ref z31, .ref z32, .ref z33, .int 0, .long 0, .ref z36, .ref z37, .ref z38, .ref z39, .ref z40, .ref z41, .ref z42, .ref z43, .ref z44, .ref z45, .ref z46, .ref z47, .ref z48, .int 0, .int 10, .int 0, .int 0, .int 0, .int 0, .ref z55, .ref z56, .int 0, .int 0, .ref z59, .ref z60, .ref z61, .int 0, .long 0])), (z2, .inl (γ.2.1 0, 1000, .inl f_1481))] s H locs := by rw [ef_1481]; exact hw
      refine lv_aload_n hx hb dX12_feed_104 rfl (lv_at hl 3 rfl) ?_
      refine lv_dup hx hb dX12_feed_105 rfl ?_
      refine fg_RX12_148 hC hw 0 rfl rfl dX12_feed_106 ?_
      refine lv_iconst (v := 1) hx hb dX12_feed_109 (by decide) ?_
      refine lv_iadd hx hb dX12_feed_110 ?_
      refine lv_topi (fun x_1482 ex_1482 => ?_)
      obtain rfl : x_1482 = (nI (n + 1)) := ex_1482.trans (nI_1 n)
      refine fs_RX12_148 hC hw 0 rfl rfl rfl (Nat.le_of_ble_eq_true rfl) dX12_feed_111 (fun H locs hw => ?_)
      have hw : kW γ A [(z, .inr (11, [.int 0, .int (nI (n + 1)), .ref z2, .int 0, .int 0, .int 0, .int 0, .long 0, .int 0, .int 0, .ref z10, .ref z11, .ref z12, .ref z13, .ref z14, .ref z15, .ref z16, .ref z17, .ref z18, .ref z19, .int 0, .int 0, .ref z22, .ref z23, .ref z24, .ref z25, .ref z26, .ref z27, .ref z28, .ref z29, .ref z30, .ref z31, .ref z32, .ref z33, .int 0, .long 0, .ref z36, .ref z37, .ref z38, .ref z39, .ref z40, .ref z41, .ref z42, .ref z43, .ref z44, .ref z45, .ref z46, .ref z47, .ref z48, .int 0, .int 10, .int 0, .int 0, .int 0, .int 0, .ref z55, .ref z56, .int 0, .int 0, .ref z59, .ref z60, .ref z61, .int 0, .long 0])), (z2, .inl (γ.2.1 0, 1000, .inl f_1481))] s H locs := hw
      refine lv_iinc (v := 23) (lv' := [(7, .int 23), (10, .int x_1480), (8, .long vc), (0, .ref z), (1, .long va), (3, .long vb), (5, .long vc)]) hx hb dX12_feed_114 hl (k := 2) rfl (by decide) (by decide) rfl (fun ls hl => ?_)
      refine lv_goto (tgt := 8) hx hb dX12_feed_117 (by decide) ?_
      have hst : kst n (kby vc 8) = (n + 1) := by rw [← hk]; exact (by first | exact kst_full hfull | exact kst_a c76 hlt | exact kst_b c83 c90 hlt | exact kst_lo c76 c83 | exact kst_hi c76 c90)
      exact mf_23 z z2 z10 z11 z12 z13 z14 z15 z16 z17 z18 z19 z22 z23 z24 z25 z26 z27 z28 z29 z30 z31 z32 z33 z36 z37 z38 z39 z40 z41 z42 z43 z44 z45 z46 z47 z48 z55 z56 z59 z60 z61 va vb vc (n + 1) f_1481 (by omega) F (by have h9 : kad vc 1 (kst n (kby vc 8)) = F := hF; rw [hst] at h9; exact h9) hC hr hlocks _ _ (kW.sub hw [0, 1] rfl rfl) _ (lv_sub hl [0, 3, 4, 5, 6] rfl)
    · refine lv_iload hx hb dX12_feed_79 (lv_at hl 0 rfl) ?_
      refine lv_bipush (v := 32) hx hb dX12_feed_81 (by decide) ?_
      refine lv_icmp_lt (tgt := 114) hx hb dX12_feed_83 (by decide) (fun c83 => ?_) (fun c83 => ?_)
      · refine lv_iinc (v := 23) (lv' := [(7, .int 23), (10, .int x_1480), (8, .long vc), (0, .ref z), (1, .long va), (3, .long vb), (5, .long vc)]) hx hb dX12_feed_114 hl (k := 2) rfl (by decide) (by decide) rfl (fun ls hl => ?_)
        refine lv_goto (tgt := 8) hx hb dX12_feed_117 (by decide) ?_
        have hst : kst n (kby vc 8) = n := by rw [← hk]; exact (by first | exact kst_full hfull | exact kst_a c76 hlt | exact kst_b c83 c90 hlt | exact kst_lo c76 c83 | exact kst_hi c76 c90)
        exact mf_23 z z2 z10 z11 z12 z13 z14 z15 z16 z17 z18 z19 z22 z23 z24 z25 z26 z27 z28 z29 z30 z31 z32 z33 z36 z37 z38 z39 z40 z41 z42 z43 z44 z45 z46 z47 z48 z55 z56 z59 z60 z61 va vb vc n f (by omega) F (by have h9 : kad vc 1 (kst n (kby vc 8)) = F := hF; rw [hst] at h9; exact h9) hC hr hlocks _ _ (kW.sub hw [0, 1] rfl rfl) _ (lv_sub hl [0, 3, 4, 5, 6] rfl)
      · refine lv_iload hx hb dX12_feed_86 (lv_at hl 0 rfl) ?_
        refine lv_bipush (v := 126) hx hb dX12_feed_88 (by decide) ?_
        refine lv_icmp_gt (tgt := 114) hx hb dX12_feed_90 (by decide) (fun c90 => ?_) (fun c90 => ?_)
        · refine lv_iinc (v := 23) (lv' := [(7, .int 23), (10, .int x_1480), (8, .long vc), (0, .ref z), (1, .long va), (3, .long vb), (5, .long vc)]) hx hb dX12_feed_114 hl (k := 2) rfl (by decide) (by decide) rfl (fun ls hl => ?_)
          refine lv_goto (tgt := 8) hx hb dX12_feed_117 (by decide) ?_
          have hst : kst n (kby vc 8) = n := by rw [← hk]; exact (by first | exact kst_full hfull | exact kst_a c76 hlt | exact kst_b c83 c90 hlt | exact kst_lo c76 c83 | exact kst_hi c76 c90)
          exact mf_23 z z2 z10 z11 z12 z13 z14 z15 z16 z17 z18 z19 z22 z23 z24 z25 z26 z27 z28 z29 z30 z31 z32 z33 z36 z37 z38 z39 z40 z41 z42 z43 z44 z45 z46 z47 z48 z55 z56 z59 z60 z61 va vb vc n f (by omega) F (by have h9 : kad vc 1 (kst n (kby vc 8)) = F := hF; rw [hst] at h9; exact h9) hC hr hlocks _ _ (kW.sub hw [0, 1] rfl rfl) _ (lv_sub hl [0, 3, 4, 5, 6] rfl)
        · refine lv_aload_n hx hb dX12_feed_93 rfl (lv_at hl 3 rfl) ?_
          refine fg_RX12_7 hC hw 0 rfl rfl dX12_feed_94 ?_
          refine lv_aload_n hx hb dX12_feed_97 rfl (lv_at hl 3 rfl) ?_
          refine fg_RX12_148 hC hw 0 rfl rfl dX12_feed_98 ?_
          refine lv_iload hx hb dX12_feed_101 (lv_at hl 0 rfl) ?_
          refine k_iast hC hw 1 rfl (vp_in_nI hlt (by decide)) dX12_feed_103 (fun H locs hw => ?_)
          obtain ⟨f_1483, ef_1483⟩ : ∃ g, g = upd f ((nI n) : Int32).toNatClampNeg x_1480 := ⟨_, rfl⟩
          have hw : kW γ A [(z, .inr (11, [.int 0, .int (nI n), .ref z2, .int 0, .int 0, .int 0, .int 0, .long 0, .int 0, .int 0, .ref z10, .ref z11, .ref z12, .ref z13, .ref z14, .ref z15, .ref z16, .ref z17, .ref z18, .ref z19, .int 0, .int 0, .ref z22, .ref z23, .ref z24, .ref z25, .ref z26, .ref z27, .ref z28, .ref z29, .ref z30, .ref z31, .ref z32, .ref z33, .int 0, .long 0, .ref z36, .ref z37, .ref z38, .ref z39, .ref z40, .ref z41, .ref z42, .ref z43, .ref z44, .ref z45, .ref z46, .ref z47, .ref z48, .int 0, .int 10, .int 0, .int 0, .int 0, .int 0, .ref z55, .ref z56, .int 0, .int 0, .ref z59, .ref z60, .ref z61, .int 0, .long 0])), (z2, .inl (γ.2.1 0, 1000, .inl f_1483))] s H locs := by rw [ef_1483]; exact hw
          refine lv_aload_n hx hb dX12_feed_104 rfl (lv_at hl 3 rfl) ?_
          refine lv_dup hx hb dX12_feed_105 rfl ?_
          refine fg_RX12_148 hC hw 0 rfl rfl dX12_feed_106 ?_
          refine lv_iconst (v := 1) hx hb dX12_feed_109 (by decide) ?_
          refine lv_iadd hx hb dX12_feed_110 ?_
          refine lv_topi (fun x_1484 ex_1484 => ?_)
          obtain rfl : x_1484 = (nI (n + 1)) := ex_1484.trans (nI_1 n)
          refine fs_RX12_148 hC hw 0 rfl rfl rfl (Nat.le_of_ble_eq_true rfl) dX12_feed_111 (fun H locs hw => ?_)
          have hw : kW γ A [(z, .inr (11, [.int 0, .int (nI (n + 1)), .ref z2, .int 0, .int 0, .int 0, .int 0, .long 0, .int 0, .int 0, .ref z10, .ref z11, .ref z12, .ref z13, .ref z14, .ref z15, .ref z16, .ref z17, .ref z18, .ref z19, .int 0, .int 0, .ref z22, .ref z23, .ref z24, .ref z25, .ref z26, .ref z27, .ref z28, .ref z29, .ref z30, .ref z31, .ref z32, .ref z33, .int 0, .long 0, .ref z36, .ref z37, .ref z38, .ref z39, .ref z40, .ref z41, .ref z42, .ref z43, .ref z44, .ref z45, .ref z46, .ref z47, .ref z48, .int 0, .int 10, .int 0, .int 0, .int 0, .int 0, .ref z55, .ref z56, .int 0, .int 0, .ref z59, .ref z60, .ref z61, .int 0, .long 0])), (z2, .inl (γ.2.1 0, 1000, .inl f_1483))] s H locs := hw
          refine lv_iinc (v := 23) (lv' := [(7, .int 23), (10, .int x_1480), (8, .long vc), (0, .ref z), (1, .long va), (3, .long vb), (5, .long vc)]) hx hb dX12_feed_114 hl (k := 2) rfl (by decide) (by decide) rfl (fun ls hl => ?_)
          refine lv_goto (tgt := 8) hx hb dX12_feed_117 (by decide) ?_
          have hst : kst n (kby vc 8) = (n + 1) := by rw [← hk]; exact (by first | exact kst_full hfull | exact kst_a c76 hlt | exact kst_b c83 c90 hlt | exact kst_lo c76 c83 | exact kst_hi c76 c90)
          exact mf_23 z z2 z10 z11 z12 z13 z14 z15 z16 z17 z18 z19 z22 z23 z24 z25 z26 z27 z28 z29 z30 z31 z32 z33 z36 z37 z38 z39 z40 z41 z42 z43 z44 z45 z46 z47 z48 z55 z56 z59 z60 z61 va vb vc (n + 1) f_1483 (by omega) F (by have h9 : kad vc 1 (kst n (kby vc 8)) = F := hF; rw [hst] at h9; exact h9) hC hr hlocks _ _ (kW.sub hw [0, 1] rfl rfl) _ (lv_sub hl [0, 3, 4, 5, 6] rfl)

set_option maxHeartbeats 4000000 in
set_option maxRecDepth 100000 in
theorem mf_21 {γ : kΓ} {l : Launch} {p : Program} {e : Env} {s : State} {m : MethodId} {below : List Frame} {meth : Method} {c : Code} {A : Nat → Prop} (z : Nat) (z2 : Nat) (z10 : Nat) (z11 : Nat) (z12 : Nat) (z13 : Nat) (z14 : Nat) (z15 : Nat) (z16 : Nat) (z17 : Nat) (z18 : Nat) (z19 : Nat) (z22 : Nat) (z23 : Nat) (z24 : Nat) (z25 : Nat) (z26 : Nat) (z27 : Nat) (z28 : Nat) (z29 : Nat) (z30 : Nat) (z31 : Nat) (z32 : Nat) (z33 : Nat) (z36 : Nat) (z37 : Nat) (z38 : Nat) (z39 : Nat) (z40 : Nat) (z41 : Nat) (z42 : Nat) (z43 : Nat) (z44 : Nat) (z45 : Nat) (z46 : Nat) (z47 : Nat) (z48 : Nat) (z55 : Nat) (z56 : Nat) (z59 : Nat) (z60 : Nat) (z61 : Nat) (va : Int64) (vb : Int64) (vc : Int64) (n : Nat) (f : Nat → Int32) (hn : n ≤ 1000) (F : Nat) (hF : kad vc 3 n = F) (hC : kC γ p s m [.ref z, .long va, .long vb, .long vc].toArray c cX12_feed 11 RX12 A) (hr : meth.sig.returnType = (some .int)) (hlocks : meth.locks = false) (H : Heap) (locs : List Loc) (hw : kW γ A [(z, .inr (11, [.int 0, .int (nI n), .ref z2, .int 0, .int 0, .int 0, .int 0, .long 0, .int 0, .int 0, .ref z10, .ref z11, .ref z12, .ref z13, .ref z14, .ref z15, .ref z16, .ref z17, .ref z18, .ref z19, .int 0, .int 0, .ref z22, .ref z23, .ref z24, .ref z25, .ref z26, .ref z27, .ref z28, .ref z29, .ref z30, .ref z31, .ref z32, .ref z33, .int 0, .long 0, .ref z36, .ref z37, .ref z38, .ref z39, .ref z40, .ref z41, .ref z42, .ref z43, .ref z44, .ref z45, .ref z46, .ref z47, .ref z48, .int 0, .int 10, .int 0, .int 0, .int 0, .int 0, .ref z55, .ref z56, .int 0, .int 0, .ref z59, .ref z60, .ref z61, .int 0, .long 0])), (z2, .inl (γ.2.1 0, 1000, .inl f))] s H locs) (ls : Array Slot) (hl : lv_has ls 11 [(7, .int 21), (0, .ref z), (1, .long va), (3, .long vb), (5, .long vc)]) : W p l e ({ frames := 0, cells := 0, slots := 0, locals := 0 } : Room) s m [.ref z, .long va, .long vb, .long vc].toArray below meth c H locs 0 0 (MQ below (kQ γ A (fun r w1 => r = some (.int (nI F)) ∧ w1 = [])) [.ref z, .long va, .long vb, .long vc].toArray s 0 0 A) (F0 m 8 ls []) := by
  have hx := hC.1
  have hb := hC.2.1
  refine lv_iload hx hb dX12_feed_8 (lv_at hl 0 rfl) ?_
  refine lv_bipush (v := 24) hx hb dX12_feed_10 (by decide) ?_
  refine lv_icmp_ge (tgt := 120) hx hb dX12_feed_12 (by decide) (fun h => absurd h (by decide)) (fun _ => ?_)
  refine lv_iload hx hb dX12_feed_15 (lv_at hl 0 rfl) ?_
  refine lv_bipush (v := 8) hx hb dX12_feed_17 (by decide) ?_
  refine lv_icmp_ge (tgt := 26) hx hb dX12_feed_19 (by decide) (fun _ => ?_) (fun h => absurd (by decide) h)
  refine lv_iload hx hb dX12_feed_26 (lv_at hl 0 rfl) ?_
  refine lv_bipush (v := 16) hx hb dX12_feed_28 (by decide) ?_
  refine lv_icmp_ge (tgt := 37) hx hb dX12_feed_30 (by decide) (fun _ => ?_) (fun h => absurd (by decide) h)
  refine lv_lload hx hb dX12_feed_37 (lv_at hl 4 rfl) ?_
  refine lv_lstore (lv' := [(8, .long vc), (7, .int 21), (0, .ref z), (1, .long va), (3, .long vb), (5, .long vc)]) hx hb dX12_feed_39 hl (by decide) rfl (fun ls hl => ?_)
  refine lv_lload hx hb dX12_feed_41 (lv_at hl 0 rfl) ?_
  refine lv_bipush (v := 56) hx hb dX12_feed_43 (by decide) ?_
  refine lv_bipush (v := 8) hx hb dX12_feed_45 (by decide) ?_
  refine lv_iload hx hb dX12_feed_47 (lv_at hl 1 rfl) ?_
  refine lv_bipush (v := 7) hx hb dX12_feed_49 (by decide) ?_
  refine lv_iand hx hb dX12_feed_51 ?_
  refine lv_topi (fun x_1485 ex_1485 => ?_)
  obtain rfl : x_1485 = 5 := ex_1485.trans (by decide)
  refine lv_imul hx hb dX12_feed_52 ?_
  refine lv_topi (fun x_1486 ex_1486 => ?_)
  obtain rfl : x_1486 = 40 := ex_1486.trans (by decide)
  refine lv_isub hx hb dX12_feed_53 ?_
  refine lv_topi (fun x_1487 ex_1487 => ?_)
  obtain rfl : x_1487 = 16 := ex_1487.trans (by decide)
  refine lv_lushr hx hb dX12_feed_54 rfl ?_
  refine lv_topl (fun x_1488 ex_1488 => ?_)
  refine k_ldc2 hC gw_1393 dX12_feed_55 ?_
  refine lv_land hx hb dX12_feed_58 ?_
  refine lv_topl (fun x_1489 ex_1489 => ?_)
  refine lv_l2i hx hb dX12_feed_59 rfl ?_
  refine lv_topi (fun x_1490 ex_1490 => ?_)
  refine lv_istore (lv' := [(10, .int x_1490), (8, .long vc), (7, .int 21), (0, .ref z), (1, .long va), (3, .long vb), (5, .long vc)]) hx hb dX12_feed_60 hl (by decide) rfl (fun ls hl => ?_)
  have hk : x_1490 = kby vc 16 := by rw [ex_1490, ex_1489, k_land, ex_1488]; rfl
  refine lv_aload_n hx hb dX12_feed_62 rfl (lv_at hl 3 rfl) ?_
  refine fg_RX12_148 hC hw 0 rfl rfl dX12_feed_63 ?_
  refine lv_sipush (v := 1000) hx hb dX12_feed_66 (by decide) ?_
  refine lv_icmp_ge (tgt := 114) hx hb dX12_feed_69 (by decide) (fun c69 => ?_) (fun c69 => ?_)
  · have hfull : ¬ n < 1000 := fun h9 => absurd c69 (nI_ge h9 (by decide))
    refine lv_iinc (v := 22) (lv' := [(7, .int 22), (10, .int x_1490), (8, .long vc), (0, .ref z), (1, .long va), (3, .long vb), (5, .long vc)]) hx hb dX12_feed_114 hl (k := 2) rfl (by decide) (by decide) rfl (fun ls hl => ?_)
    refine lv_goto (tgt := 8) hx hb dX12_feed_117 (by decide) ?_
    have hst : kst n (kby vc 16) = n := by rw [← hk]; exact (by first | exact kst_full hfull | exact kst_a c76 hlt | exact kst_b c83 c90 hlt | exact kst_lo c76 c83 | exact kst_hi c76 c90)
    exact mf_22 z z2 z10 z11 z12 z13 z14 z15 z16 z17 z18 z19 z22 z23 z24 z25 z26 z27 z28 z29 z30 z31 z32 z33 z36 z37 z38 z39 z40 z41 z42 z43 z44 z45 z46 z47 z48 z55 z56 z59 z60 z61 va vb vc n f (by omega) F (by have h9 : kad vc 2 (kst n (kby vc 16)) = F := hF; rw [hst] at h9; exact h9) hC hr hlocks _ _ (kW.sub hw [0, 1] rfl rfl) _ (lv_sub hl [0, 3, 4, 5, 6] rfl)
  · have hlt : n < 1000 := by rcases Nat.lt_or_ge n 1000 with h9 | h9; exact h9; exact absurd (nI_le h9 (by omega)) c69
    refine lv_iload hx hb dX12_feed_72 (lv_at hl 0 rfl) ?_
    refine lv_bipush (v := 10) hx hb dX12_feed_74 (by decide) ?_
    refine lv_icmp_eq (tgt := 93) hx hb dX12_feed_76 (by decide) (fun c76 => ?_) (fun c76 => ?_)
    · refine lv_aload_n hx hb dX12_feed_93 rfl (lv_at hl 3 rfl) ?_
      refine fg_RX12_7 hC hw 0 rfl rfl dX12_feed_94 ?_
      refine lv_aload_n hx hb dX12_feed_97 rfl (lv_at hl 3 rfl) ?_
      refine fg_RX12_148 hC hw 0 rfl rfl dX12_feed_98 ?_
      refine lv_iload hx hb dX12_feed_101 (lv_at hl 0 rfl) ?_
      refine k_iast hC hw 1 rfl (vp_in_nI hlt (by decide)) dX12_feed_103 (fun H locs hw => ?_)
      obtain ⟨f_1491, ef_1491⟩ : ∃ g, g = upd f ((nI n) : Int32).toNatClampNeg x_1490 := ⟨_, rfl⟩
      have hw : kW γ A [(z, .inr (11, [.int 0, .int (nI n), .ref z2, .int 0, .int 0, .int 0, .int 0, .long 0, .int 0, .int 0, .ref z10, .ref z11, .ref z12, .ref z13, .ref z14, .ref z15, .ref z16, .ref z17, .ref z18, .ref z19, .int 0, .int 0, .ref z22, .ref z23, .ref z24, .ref z25, .ref z26, .ref z27, .ref z28, .ref z29, .ref z30, .ref z31, .ref z32, .ref z33, .int 0, .long 0, .ref z36, .ref z37, .ref z38, .ref z39, .ref z40, .ref z41, .ref z42, .ref z43, .ref z44, .ref z45, .ref z46, .ref z47, .ref z48, .int 0, .int 10, .int 0, .int 0, .int 0, .int 0, .ref z55, .ref z56, .int 0, .int 0, .ref z59, .ref z60, .ref z61, .int 0, .long 0])), (z2, .inl (γ.2.1 0, 1000, .inl f_1491))] s H locs := by rw [ef_1491]; exact hw
      refine lv_aload_n hx hb dX12_feed_104 rfl (lv_at hl 3 rfl) ?_
      refine lv_dup hx hb dX12_feed_105 rfl ?_
      refine fg_RX12_148 hC hw 0 rfl rfl dX12_feed_106 ?_
      refine lv_iconst (v := 1) hx hb dX12_feed_109 (by decide) ?_
      refine lv_iadd hx hb dX12_feed_110 ?_
      refine lv_topi (fun x_1492 ex_1492 => ?_)
      obtain rfl : x_1492 = (nI (n + 1)) := ex_1492.trans (nI_1 n)
      refine fs_RX12_148 hC hw 0 rfl rfl rfl (Nat.le_of_ble_eq_true rfl) dX12_feed_111 (fun H locs hw => ?_)
      have hw : kW γ A [(z, .inr (11, [.int 0, .int (nI (n + 1)), .ref z2, .int 0, .int 0, .int 0, .int 0, .long 0, .int 0, .int 0, .ref z10, .ref z11, .ref z12, .ref z13, .ref z14, .ref z15, .ref z16, .ref z17, .ref z18, .ref z19, .int 0, .int 0, .ref z22, .ref z23, .ref z24, .ref z25, .ref z26, .ref z27, .ref z28, .ref z29, .ref z30, .ref z31, .ref z32, .ref z33, .int 0, .long 0, .ref z36, .ref z37, .ref z38, .ref z39, .ref z40, .ref z41, .ref z42, .ref z43, .ref z44, .ref z45, .ref z46, .ref z47, .ref z48, .int 0, .int 10, .int 0, .int 0, .int 0, .int 0, .ref z55, .ref z56, .int 0, .int 0, .ref z59, .ref z60, .ref z61, .int 0, .long 0])), (z2, .inl (γ.2.1 0, 1000, .inl f_1491))] s H locs := hw
      refine lv_iinc (v := 22) (lv' := [(7, .int 22), (10, .int x_1490), (8, .long vc), (0, .ref z), (1, .long va), (3, .long vb), (5, .long vc)]) hx hb dX12_feed_114 hl (k := 2) rfl (by decide) (by decide) rfl (fun ls hl => ?_)
      refine lv_goto (tgt := 8) hx hb dX12_feed_117 (by decide) ?_
      have hst : kst n (kby vc 16) = (n + 1) := by rw [← hk]; exact (by first | exact kst_full hfull | exact kst_a c76 hlt | exact kst_b c83 c90 hlt | exact kst_lo c76 c83 | exact kst_hi c76 c90)
      exact mf_22 z z2 z10 z11 z12 z13 z14 z15 z16 z17 z18 z19 z22 z23 z24 z25 z26 z27 z28 z29 z30 z31 z32 z33 z36 z37 z38 z39 z40 z41 z42 z43 z44 z45 z46 z47 z48 z55 z56 z59 z60 z61 va vb vc (n + 1) f_1491 (by omega) F (by have h9 : kad vc 2 (kst n (kby vc 16)) = F := hF; rw [hst] at h9; exact h9) hC hr hlocks _ _ (kW.sub hw [0, 1] rfl rfl) _ (lv_sub hl [0, 3, 4, 5, 6] rfl)
    · refine lv_iload hx hb dX12_feed_79 (lv_at hl 0 rfl) ?_
      refine lv_bipush (v := 32) hx hb dX12_feed_81 (by decide) ?_
      refine lv_icmp_lt (tgt := 114) hx hb dX12_feed_83 (by decide) (fun c83 => ?_) (fun c83 => ?_)
      · refine lv_iinc (v := 22) (lv' := [(7, .int 22), (10, .int x_1490), (8, .long vc), (0, .ref z), (1, .long va), (3, .long vb), (5, .long vc)]) hx hb dX12_feed_114 hl (k := 2) rfl (by decide) (by decide) rfl (fun ls hl => ?_)
        refine lv_goto (tgt := 8) hx hb dX12_feed_117 (by decide) ?_
        have hst : kst n (kby vc 16) = n := by rw [← hk]; exact (by first | exact kst_full hfull | exact kst_a c76 hlt | exact kst_b c83 c90 hlt | exact kst_lo c76 c83 | exact kst_hi c76 c90)
        exact mf_22 z z2 z10 z11 z12 z13 z14 z15 z16 z17 z18 z19 z22 z23 z24 z25 z26 z27 z28 z29 z30 z31 z32 z33 z36 z37 z38 z39 z40 z41 z42 z43 z44 z45 z46 z47 z48 z55 z56 z59 z60 z61 va vb vc n f (by omega) F (by have h9 : kad vc 2 (kst n (kby vc 16)) = F := hF; rw [hst] at h9; exact h9) hC hr hlocks _ _ (kW.sub hw [0, 1] rfl rfl) _ (lv_sub hl [0, 3, 4, 5, 6] rfl)
      · refine lv_iload hx hb dX12_feed_86 (lv_at hl 0 rfl) ?_
        refine lv_bipush (v := 126) hx hb dX12_feed_88 (by decide) ?_
        refine lv_icmp_gt (tgt := 114) hx hb dX12_feed_90 (by decide) (fun c90 => ?_) (fun c90 => ?_)
        · refine lv_iinc (v := 22) (lv' := [(7, .int 22), (10, .int x_1490), (8, .long vc), (0, .ref z), (1, .long va), (3, .long vb), (5, .long vc)]) hx hb dX12_feed_114 hl (k := 2) rfl (by decide) (by decide) rfl (fun ls hl => ?_)
          refine lv_goto (tgt := 8) hx hb dX12_feed_117 (by decide) ?_
          have hst : kst n (kby vc 16) = n := by rw [← hk]; exact (by first | exact kst_full hfull | exact kst_a c76 hlt | exact kst_b c83 c90 hlt | exact kst_lo c76 c83 | exact kst_hi c76 c90)
          exact mf_22 z z2 z10 z11 z12 z13 z14 z15 z16 z17 z18 z19 z22 z23 z24 z25 z26 z27 z28 z29 z30 z31 z32 z33 z36 z37 z38 z39 z40 z41 z42 z43 z44 z45 z46 z47 z48 z55 z56 z59 z60 z61 va vb vc n f (by omega) F (by have h9 : kad vc 2 (kst n (kby vc 16)) = F := hF; rw [hst] at h9; exact h9) hC hr hlocks _ _ (kW.sub hw [0, 1] rfl rfl) _ (lv_sub hl [0, 3, 4, 5, 6] rfl)
        · refine lv_aload_n hx hb dX12_feed_93 rfl (lv_at hl 3 rfl) ?_
          refine fg_RX12_7 hC hw 0 rfl rfl dX12_feed_94 ?_
          refine lv_aload_n hx hb dX12_feed_97 rfl (lv_at hl 3 rfl) ?_
          refine fg_RX12_148 hC hw 0 rfl rfl dX12_feed_98 ?_
          refine lv_iload hx hb dX12_feed_101 (lv_at hl 0 rfl) ?_
          refine k_iast hC hw 1 rfl (vp_in_nI hlt (by decide)) dX12_feed_103 (fun H locs hw => ?_)
          obtain ⟨f_1493, ef_1493⟩ : ∃ g, g = upd f ((nI n) : Int32).toNatClampNeg x_1490 := ⟨_, rfl⟩
          have hw : kW γ A [(z, .inr (11, [.int 0, .int (nI n), .ref z2, .int 0, .int 0, .int 0, .int 0, .long 0, .int 0, .int 0, .ref z10, .ref z11, .ref z12, .ref z13, .ref z14, .ref z15, .ref z16, .ref z17, .ref z18, .ref z19, .int 0, .int 0, .ref z22, .ref z23, .ref z24, .ref z25, .ref z26, .ref z27, .ref z28, .ref z29, .ref z30, .ref z31, .ref z32, .ref z33, .int 0, .long 0, .ref z36, .ref z37, .ref z38, .ref z39, .ref z40, .ref z41, .ref z42, .ref z43, .ref z44, .ref z45, .ref z46, .ref z47, .ref z48, .int 0, .int 10, .int 0, .int 0, .int 0, .int 0, .ref z55, .ref z56, .int 0, .int 0, .ref z59, .ref z60, .ref z61, .int 0, .long 0])), (z2, .inl (γ.2.1 0, 1000, .inl f_1493))] s H locs := by rw [ef_1493]; exact hw
          refine lv_aload_n hx hb dX12_feed_104 rfl (lv_at hl 3 rfl) ?_
          refine lv_dup hx hb dX12_feed_105 rfl ?_
          refine fg_RX12_148 hC hw 0 rfl rfl dX12_feed_106 ?_
          refine lv_iconst (v := 1) hx hb dX12_feed_109 (by decide) ?_
          refine lv_iadd hx hb dX12_feed_110 ?_
          refine lv_topi (fun x_1494 ex_1494 => ?_)
          obtain rfl : x_1494 = (nI (n + 1)) := ex_1494.trans (nI_1 n)
          refine fs_RX12_148 hC hw 0 rfl rfl rfl (Nat.le_of_ble_eq_true rfl) dX12_feed_111 (fun H locs hw => ?_)
          have hw : kW γ A [(z, .inr (11, [.int 0, .int (nI (n + 1)), .ref z2, .int 0, .int 0, .int 0, .int 0, .long 0, .int 0, .int 0, .ref z10, .ref z11, .ref z12, .ref z13, .ref z14, .ref z15, .ref z16, .ref z17, .ref z18, .ref z19, .int 0, .int 0, .ref z22, .ref z23, .ref z24, .ref z25, .ref z26, .ref z27, .ref z28, .ref z29, .ref z30, .ref z31, .ref z32, .ref z33, .int 0, .long 0, .ref z36, .ref z37, .ref z38, .ref z39, .ref z40, .ref z41, .ref z42, .ref z43, .ref z44, .ref z45, .ref z46, .ref z47, .ref z48, .int 0, .int 10, .int 0, .int 0, .int 0, .int 0, .ref z55, .ref z56, .int 0, .int 0, .ref z59, .ref z60, .ref z61, .int 0, .long 0])), (z2, .inl (γ.2.1 0, 1000, .inl f_1493))] s H locs := hw
          refine lv_iinc (v := 22) (lv' := [(7, .int 22), (10, .int x_1490), (8, .long vc), (0, .ref z), (1, .long va), (3, .long vb), (5, .long vc)]) hx hb dX12_feed_114 hl (k := 2) rfl (by decide) (by decide) rfl (fun ls hl => ?_)
          refine lv_goto (tgt := 8) hx hb dX12_feed_117 (by decide) ?_
          have hst : kst n (kby vc 16) = (n + 1) := by rw [← hk]; exact (by first | exact kst_full hfull | exact kst_a c76 hlt | exact kst_b c83 c90 hlt | exact kst_lo c76 c83 | exact kst_hi c76 c90)
          exact mf_22 z z2 z10 z11 z12 z13 z14 z15 z16 z17 z18 z19 z22 z23 z24 z25 z26 z27 z28 z29 z30 z31 z32 z33 z36 z37 z38 z39 z40 z41 z42 z43 z44 z45 z46 z47 z48 z55 z56 z59 z60 z61 va vb vc (n + 1) f_1493 (by omega) F (by have h9 : kad vc 2 (kst n (kby vc 16)) = F := hF; rw [hst] at h9; exact h9) hC hr hlocks _ _ (kW.sub hw [0, 1] rfl rfl) _ (lv_sub hl [0, 3, 4, 5, 6] rfl)

set_option maxHeartbeats 4000000 in
set_option maxRecDepth 100000 in
theorem mf_20 {γ : kΓ} {l : Launch} {p : Program} {e : Env} {s : State} {m : MethodId} {below : List Frame} {meth : Method} {c : Code} {A : Nat → Prop} (z : Nat) (z2 : Nat) (z10 : Nat) (z11 : Nat) (z12 : Nat) (z13 : Nat) (z14 : Nat) (z15 : Nat) (z16 : Nat) (z17 : Nat) (z18 : Nat) (z19 : Nat) (z22 : Nat) (z23 : Nat) (z24 : Nat) (z25 : Nat) (z26 : Nat) (z27 : Nat) (z28 : Nat) (z29 : Nat) (z30 : Nat) (z31 : Nat) (z32 : Nat) (z33 : Nat) (z36 : Nat) (z37 : Nat) (z38 : Nat) (z39 : Nat) (z40 : Nat) (z41 : Nat) (z42 : Nat) (z43 : Nat) (z44 : Nat) (z45 : Nat) (z46 : Nat) (z47 : Nat) (z48 : Nat) (z55 : Nat) (z56 : Nat) (z59 : Nat) (z60 : Nat) (z61 : Nat) (va : Int64) (vb : Int64) (vc : Int64) (n : Nat) (f : Nat → Int32) (hn : n ≤ 1000) (F : Nat) (hF : kad vc 4 n = F) (hC : kC γ p s m [.ref z, .long va, .long vb, .long vc].toArray c cX12_feed 11 RX12 A) (hr : meth.sig.returnType = (some .int)) (hlocks : meth.locks = false) (H : Heap) (locs : List Loc) (hw : kW γ A [(z, .inr (11, [.int 0, .int (nI n), .ref z2, .int 0, .int 0, .int 0, .int 0, .long 0, .int 0, .int 0, .ref z10, .ref z11, .ref z12, .ref z13, .ref z14, .ref z15, .ref z16, .ref z17, .ref z18, .ref z19, .int 0, .int 0, .ref z22, .ref z23, .ref z24, .ref z25, .ref z26, .ref z27, .ref z28, .ref z29, .ref z30, .ref z31, .ref z32, .ref z33, .int 0, .long 0, .ref z36, .ref z37, .ref z38, .ref z39, .ref z40, .ref z41, .ref z42, .ref z43, .ref z44, .ref z45, .ref z46, .ref z47, .ref z48, .int 0, .int 10, .int 0, .int 0, .int 0, .int 0, .ref z55, .ref z56, .int 0, .int 0, .ref z59, .ref z60, .ref z61, .int 0, .long 0])), (z2, .inl (γ.2.1 0, 1000, .inl f))] s H locs) (ls : Array Slot) (hl : lv_has ls 11 [(7, .int 20), (0, .ref z), (1, .long va), (3, .long vb), (5, .long vc)]) : W p l e ({ frames := 0, cells := 0, slots := 0, locals := 0 } : Room) s m [.ref z, .long va, .long vb, .long vc].toArray below meth c H locs 0 0 (MQ below (kQ γ A (fun r w1 => r = some (.int (nI F)) ∧ w1 = [])) [.ref z, .long va, .long vb, .long vc].toArray s 0 0 A) (F0 m 8 ls []) := by
  have hx := hC.1
  have hb := hC.2.1
  refine lv_iload hx hb dX12_feed_8 (lv_at hl 0 rfl) ?_
  refine lv_bipush (v := 24) hx hb dX12_feed_10 (by decide) ?_
  refine lv_icmp_ge (tgt := 120) hx hb dX12_feed_12 (by decide) (fun h => absurd h (by decide)) (fun _ => ?_)
  refine lv_iload hx hb dX12_feed_15 (lv_at hl 0 rfl) ?_
  refine lv_bipush (v := 8) hx hb dX12_feed_17 (by decide) ?_
  refine lv_icmp_ge (tgt := 26) hx hb dX12_feed_19 (by decide) (fun _ => ?_) (fun h => absurd (by decide) h)
  refine lv_iload hx hb dX12_feed_26 (lv_at hl 0 rfl) ?_
  refine lv_bipush (v := 16) hx hb dX12_feed_28 (by decide) ?_
  refine lv_icmp_ge (tgt := 37) hx hb dX12_feed_30 (by decide) (fun _ => ?_) (fun h => absurd (by decide) h)
  refine lv_lload hx hb dX12_feed_37 (lv_at hl 4 rfl) ?_
  refine lv_lstore (lv' := [(8, .long vc), (7, .int 20), (0, .ref z), (1, .long va), (3, .long vb), (5, .long vc)]) hx hb dX12_feed_39 hl (by decide) rfl (fun ls hl => ?_)
  refine lv_lload hx hb dX12_feed_41 (lv_at hl 0 rfl) ?_
  refine lv_bipush (v := 56) hx hb dX12_feed_43 (by decide) ?_
  refine lv_bipush (v := 8) hx hb dX12_feed_45 (by decide) ?_
  refine lv_iload hx hb dX12_feed_47 (lv_at hl 1 rfl) ?_
  refine lv_bipush (v := 7) hx hb dX12_feed_49 (by decide) ?_
  refine lv_iand hx hb dX12_feed_51 ?_
  refine lv_topi (fun x_1495 ex_1495 => ?_)
  obtain rfl : x_1495 = 4 := ex_1495.trans (by decide)
  refine lv_imul hx hb dX12_feed_52 ?_
  refine lv_topi (fun x_1496 ex_1496 => ?_)
  obtain rfl : x_1496 = 32 := ex_1496.trans (by decide)
  refine lv_isub hx hb dX12_feed_53 ?_
  refine lv_topi (fun x_1497 ex_1497 => ?_)
  obtain rfl : x_1497 = 24 := ex_1497.trans (by decide)
  refine lv_lushr hx hb dX12_feed_54 rfl ?_
  refine lv_topl (fun x_1498 ex_1498 => ?_)
  refine k_ldc2 hC gw_1393 dX12_feed_55 ?_
  refine lv_land hx hb dX12_feed_58 ?_
  refine lv_topl (fun x_1499 ex_1499 => ?_)
  refine lv_l2i hx hb dX12_feed_59 rfl ?_
  refine lv_topi (fun x_1500 ex_1500 => ?_)
  refine lv_istore (lv' := [(10, .int x_1500), (8, .long vc), (7, .int 20), (0, .ref z), (1, .long va), (3, .long vb), (5, .long vc)]) hx hb dX12_feed_60 hl (by decide) rfl (fun ls hl => ?_)
  have hk : x_1500 = kby vc 24 := by rw [ex_1500, ex_1499, k_land, ex_1498]; rfl
  refine lv_aload_n hx hb dX12_feed_62 rfl (lv_at hl 3 rfl) ?_
  refine fg_RX12_148 hC hw 0 rfl rfl dX12_feed_63 ?_
  refine lv_sipush (v := 1000) hx hb dX12_feed_66 (by decide) ?_
  refine lv_icmp_ge (tgt := 114) hx hb dX12_feed_69 (by decide) (fun c69 => ?_) (fun c69 => ?_)
  · have hfull : ¬ n < 1000 := fun h9 => absurd c69 (nI_ge h9 (by decide))
    refine lv_iinc (v := 21) (lv' := [(7, .int 21), (10, .int x_1500), (8, .long vc), (0, .ref z), (1, .long va), (3, .long vb), (5, .long vc)]) hx hb dX12_feed_114 hl (k := 2) rfl (by decide) (by decide) rfl (fun ls hl => ?_)
    refine lv_goto (tgt := 8) hx hb dX12_feed_117 (by decide) ?_
    have hst : kst n (kby vc 24) = n := by rw [← hk]; exact (by first | exact kst_full hfull | exact kst_a c76 hlt | exact kst_b c83 c90 hlt | exact kst_lo c76 c83 | exact kst_hi c76 c90)
    exact mf_21 z z2 z10 z11 z12 z13 z14 z15 z16 z17 z18 z19 z22 z23 z24 z25 z26 z27 z28 z29 z30 z31 z32 z33 z36 z37 z38 z39 z40 z41 z42 z43 z44 z45 z46 z47 z48 z55 z56 z59 z60 z61 va vb vc n f (by omega) F (by have h9 : kad vc 3 (kst n (kby vc 24)) = F := hF; rw [hst] at h9; exact h9) hC hr hlocks _ _ (kW.sub hw [0, 1] rfl rfl) _ (lv_sub hl [0, 3, 4, 5, 6] rfl)
  · have hlt : n < 1000 := by rcases Nat.lt_or_ge n 1000 with h9 | h9; exact h9; exact absurd (nI_le h9 (by omega)) c69
    refine lv_iload hx hb dX12_feed_72 (lv_at hl 0 rfl) ?_
    refine lv_bipush (v := 10) hx hb dX12_feed_74 (by decide) ?_
    refine lv_icmp_eq (tgt := 93) hx hb dX12_feed_76 (by decide) (fun c76 => ?_) (fun c76 => ?_)
    · refine lv_aload_n hx hb dX12_feed_93 rfl (lv_at hl 3 rfl) ?_
      refine fg_RX12_7 hC hw 0 rfl rfl dX12_feed_94 ?_
      refine lv_aload_n hx hb dX12_feed_97 rfl (lv_at hl 3 rfl) ?_
      refine fg_RX12_148 hC hw 0 rfl rfl dX12_feed_98 ?_
      refine lv_iload hx hb dX12_feed_101 (lv_at hl 0 rfl) ?_
      refine k_iast hC hw 1 rfl (vp_in_nI hlt (by decide)) dX12_feed_103 (fun H locs hw => ?_)
      obtain ⟨f_1501, ef_1501⟩ : ∃ g, g = upd f ((nI n) : Int32).toNatClampNeg x_1500 := ⟨_, rfl⟩
      have hw : kW γ A [(z, .inr (11, [.int 0, .int (nI n), .ref z2, .int 0, .int 0, .int 0, .int 0, .long 0, .int 0, .int 0, .ref z10, .ref z11, .ref z12, .ref z13, .ref z14, .ref z15, .ref z16, .ref z17, .ref z18, .ref z19, .int 0, .int 0, .ref z22, .ref z23, .ref z24, .ref z25, .ref z26, .ref z27, .ref z28, .ref z29, .ref z30, .ref z31, .ref z32, .ref z33, .int 0, .long 0, .ref z36, .ref z37, .ref z38, .ref z39, .ref z40, .ref z41, .ref z42, .ref z43, .ref z44, .ref z45, .ref z46, .ref z47, .ref z48, .int 0, .int 10, .int 0, .int 0, .int 0, .int 0, .ref z55, .ref z56, .int 0, .int 0, .ref z59, .ref z60, .ref z61, .int 0, .long 0])), (z2, .inl (γ.2.1 0, 1000, .inl f_1501))] s H locs := by rw [ef_1501]; exact hw
      refine lv_aload_n hx hb dX12_feed_104 rfl (lv_at hl 3 rfl) ?_
      refine lv_dup hx hb dX12_feed_105 rfl ?_
      refine fg_RX12_148 hC hw 0 rfl rfl dX12_feed_106 ?_
      refine lv_iconst (v := 1) hx hb dX12_feed_109 (by decide) ?_
      refine lv_iadd hx hb dX12_feed_110 ?_
      refine lv_topi (fun x_1502 ex_1502 => ?_)
      obtain rfl : x_1502 = (nI (n + 1)) := ex_1502.trans (nI_1 n)
      refine fs_RX12_148 hC hw 0 rfl rfl rfl (Nat.le_of_ble_eq_true rfl) dX12_feed_111 (fun H locs hw => ?_)
      have hw : kW γ A [(z, .inr (11, [.int 0, .int (nI (n + 1)), .ref z2, .int 0, .int 0, .int 0, .int 0, .long 0, .int 0, .int 0, .ref z10, .ref z11, .ref z12, .ref z13, .ref z14, .ref z15, .ref z16, .ref z17, .ref z18, .ref z19, .int 0, .int 0, .ref z22, .ref z23, .ref z24, .ref z25, .ref z26, .ref z27, .ref z28, .ref z29, .ref z30, .ref z31, .ref z32, .ref z33, .int 0, .long 0, .ref z36, .ref z37, .ref z38, .ref z39, .ref z40, .ref z41, .ref z42, .ref z43, .ref z44, .ref z45, .ref z46, .ref z47, .ref z48, .int 0, .int 10, .int 0, .int 0, .int 0, .int 0, .ref z55, .ref z56, .int 0, .int 0, .ref z59, .ref z60, .ref z61, .int 0, .long 0])), (z2, .inl (γ.2.1 0, 1000, .inl f_1501))] s H locs := hw
      refine lv_iinc (v := 21) (lv' := [(7, .int 21), (10, .int x_1500), (8, .long vc), (0, .ref z), (1, .long va), (3, .long vb), (5, .long vc)]) hx hb dX12_feed_114 hl (k := 2) rfl (by decide) (by decide) rfl (fun ls hl => ?_)
      refine lv_goto (tgt := 8) hx hb dX12_feed_117 (by decide) ?_
      have hst : kst n (kby vc 24) = (n + 1) := by rw [← hk]; exact (by first | exact kst_full hfull | exact kst_a c76 hlt | exact kst_b c83 c90 hlt | exact kst_lo c76 c83 | exact kst_hi c76 c90)
      exact mf_21 z z2 z10 z11 z12 z13 z14 z15 z16 z17 z18 z19 z22 z23 z24 z25 z26 z27 z28 z29 z30 z31 z32 z33 z36 z37 z38 z39 z40 z41 z42 z43 z44 z45 z46 z47 z48 z55 z56 z59 z60 z61 va vb vc (n + 1) f_1501 (by omega) F (by have h9 : kad vc 3 (kst n (kby vc 24)) = F := hF; rw [hst] at h9; exact h9) hC hr hlocks _ _ (kW.sub hw [0, 1] rfl rfl) _ (lv_sub hl [0, 3, 4, 5, 6] rfl)
    · refine lv_iload hx hb dX12_feed_79 (lv_at hl 0 rfl) ?_
      refine lv_bipush (v := 32) hx hb dX12_feed_81 (by decide) ?_
      refine lv_icmp_lt (tgt := 114) hx hb dX12_feed_83 (by decide) (fun c83 => ?_) (fun c83 => ?_)
      · refine lv_iinc (v := 21) (lv' := [(7, .int 21), (10, .int x_1500), (8, .long vc), (0, .ref z), (1, .long va), (3, .long vb), (5, .long vc)]) hx hb dX12_feed_114 hl (k := 2) rfl (by decide) (by decide) rfl (fun ls hl => ?_)
        refine lv_goto (tgt := 8) hx hb dX12_feed_117 (by decide) ?_
        have hst : kst n (kby vc 24) = n := by rw [← hk]; exact (by first | exact kst_full hfull | exact kst_a c76 hlt | exact kst_b c83 c90 hlt | exact kst_lo c76 c83 | exact kst_hi c76 c90)
        exact mf_21 z z2 z10 z11 z12 z13 z14 z15 z16 z17 z18 z19 z22 z23 z24 z25 z26 z27 z28 z29 z30 z31 z32 z33 z36 z37 z38 z39 z40 z41 z42 z43 z44 z45 z46 z47 z48 z55 z56 z59 z60 z61 va vb vc n f (by omega) F (by have h9 : kad vc 3 (kst n (kby vc 24)) = F := hF; rw [hst] at h9; exact h9) hC hr hlocks _ _ (kW.sub hw [0, 1] rfl rfl) _ (lv_sub hl [0, 3, 4, 5, 6] rfl)
      · refine lv_iload hx hb dX12_feed_86 (lv_at hl 0 rfl) ?_
        refine lv_bipush (v := 126) hx hb dX12_feed_88 (by decide) ?_
        refine lv_icmp_gt (tgt := 114) hx hb dX12_feed_90 (by decide) (fun c90 => ?_) (fun c90 => ?_)
        · refine lv_iinc (v := 21) (lv' := [(7, .int 21), (10, .int x_1500), (8, .long vc), (0, .ref z), (1, .long va), (3, .long vb), (5, .long vc)]) hx hb dX12_feed_114 hl (k := 2) rfl (by decide) (by decide) rfl (fun ls hl => ?_)
          refine lv_goto (tgt := 8) hx hb dX12_feed_117 (by decide) ?_
          have hst : kst n (kby vc 24) = n := by rw [← hk]; exact (by first | exact kst_full hfull | exact kst_a c76 hlt | exact kst_b c83 c90 hlt | exact kst_lo c76 c83 | exact kst_hi c76 c90)
          exact mf_21 z z2 z10 z11 z12 z13 z14 z15 z16 z17 z18 z19 z22 z23 z24 z25 z26 z27 z28 z29 z30 z31 z32 z33 z36 z37 z38 z39 z40 z41 z42 z43 z44 z45 z46 z47 z48 z55 z56 z59 z60 z61 va vb vc n f (by omega) F (by have h9 : kad vc 3 (kst n (kby vc 24)) = F := hF; rw [hst] at h9; exact h9) hC hr hlocks _ _ (kW.sub hw [0, 1] rfl rfl) _ (lv_sub hl [0, 3, 4, 5, 6] rfl)
        · refine lv_aload_n hx hb dX12_feed_93 rfl (lv_at hl 3 rfl) ?_
          refine fg_RX12_7 hC hw 0 rfl rfl dX12_feed_94 ?_
          refine lv_aload_n hx hb dX12_feed_97 rfl (lv_at hl 3 rfl) ?_
          refine fg_RX12_148 hC hw 0 rfl rfl dX12_feed_98 ?_
          refine lv_iload hx hb dX12_feed_101 (lv_at hl 0 rfl) ?_
          refine k_iast hC hw 1 rfl (vp_in_nI hlt (by decide)) dX12_feed_103 (fun H locs hw => ?_)
          obtain ⟨f_1503, ef_1503⟩ : ∃ g, g = upd f ((nI n) : Int32).toNatClampNeg x_1500 := ⟨_, rfl⟩
          have hw : kW γ A [(z, .inr (11, [.int 0, .int (nI n), .ref z2, .int 0, .int 0, .int 0, .int 0, .long 0, .int 0, .int 0, .ref z10, .ref z11, .ref z12, .ref z13, .ref z14, .ref z15, .ref z16, .ref z17, .ref z18, .ref z19, .int 0, .int 0, .ref z22, .ref z23, .ref z24, .ref z25, .ref z26, .ref z27, .ref z28, .ref z29, .ref z30, .ref z31, .ref z32, .ref z33, .int 0, .long 0, .ref z36, .ref z37, .ref z38, .ref z39, .ref z40, .ref z41, .ref z42, .ref z43, .ref z44, .ref z45, .ref z46, .ref z47, .ref z48, .int 0, .int 10, .int 0, .int 0, .int 0, .int 0, .ref z55, .ref z56, .int 0, .int 0, .ref z59, .ref z60, .ref z61, .int 0, .long 0])), (z2, .inl (γ.2.1 0, 1000, .inl f_1503))] s H locs := by rw [ef_1503]; exact hw
          refine lv_aload_n hx hb dX12_feed_104 rfl (lv_at hl 3 rfl) ?_
          refine lv_dup hx hb dX12_feed_105 rfl ?_
          refine fg_RX12_148 hC hw 0 rfl rfl dX12_feed_106 ?_
          refine lv_iconst (v := 1) hx hb dX12_feed_109 (by decide) ?_
          refine lv_iadd hx hb dX12_feed_110 ?_
          refine lv_topi (fun x_1504 ex_1504 => ?_)
          obtain rfl : x_1504 = (nI (n + 1)) := ex_1504.trans (nI_1 n)
          refine fs_RX12_148 hC hw 0 rfl rfl rfl (Nat.le_of_ble_eq_true rfl) dX12_feed_111 (fun H locs hw => ?_)
          have hw : kW γ A [(z, .inr (11, [.int 0, .int (nI (n + 1)), .ref z2, .int 0, .int 0, .int 0, .int 0, .long 0, .int 0, .int 0, .ref z10, .ref z11, .ref z12, .ref z13, .ref z14, .ref z15, .ref z16, .ref z17, .ref z18, .ref z19, .int 0, .int 0, .ref z22, .ref z23, .ref z24, .ref z25, .ref z26, .ref z27, .ref z28, .ref z29, .ref z30, .ref z31, .ref z32, .ref z33, .int 0, .long 0, .ref z36, .ref z37, .ref z38, .ref z39, .ref z40, .ref z41, .ref z42, .ref z43, .ref z44, .ref z45, .ref z46, .ref z47, .ref z48, .int 0, .int 10, .int 0, .int 0, .int 0, .int 0, .ref z55, .ref z56, .int 0, .int 0, .ref z59, .ref z60, .ref z61, .int 0, .long 0])), (z2, .inl (γ.2.1 0, 1000, .inl f_1503))] s H locs := hw
          refine lv_iinc (v := 21) (lv' := [(7, .int 21), (10, .int x_1500), (8, .long vc), (0, .ref z), (1, .long va), (3, .long vb), (5, .long vc)]) hx hb dX12_feed_114 hl (k := 2) rfl (by decide) (by decide) rfl (fun ls hl => ?_)
          refine lv_goto (tgt := 8) hx hb dX12_feed_117 (by decide) ?_
          have hst : kst n (kby vc 24) = (n + 1) := by rw [← hk]; exact (by first | exact kst_full hfull | exact kst_a c76 hlt | exact kst_b c83 c90 hlt | exact kst_lo c76 c83 | exact kst_hi c76 c90)
          exact mf_21 z z2 z10 z11 z12 z13 z14 z15 z16 z17 z18 z19 z22 z23 z24 z25 z26 z27 z28 z29 z30 z31 z32 z33 z36 z37 z38 z39 z40 z41 z42 z43 z44 z45 z46 z47 z48 z55 z56 z59 z60 z61 va vb vc (n + 1) f_1503 (by omega) F (by have h9 : kad vc 3 (kst n (kby vc 24)) = F := hF; rw [hst] at h9; exact h9) hC hr hlocks _ _ (kW.sub hw [0, 1] rfl rfl) _ (lv_sub hl [0, 3, 4, 5, 6] rfl)

set_option maxHeartbeats 4000000 in
set_option maxRecDepth 100000 in
theorem mf_19 {γ : kΓ} {l : Launch} {p : Program} {e : Env} {s : State} {m : MethodId} {below : List Frame} {meth : Method} {c : Code} {A : Nat → Prop} (z : Nat) (z2 : Nat) (z10 : Nat) (z11 : Nat) (z12 : Nat) (z13 : Nat) (z14 : Nat) (z15 : Nat) (z16 : Nat) (z17 : Nat) (z18 : Nat) (z19 : Nat) (z22 : Nat) (z23 : Nat) (z24 : Nat) (z25 : Nat) (z26 : Nat) (z27 : Nat) (z28 : Nat) (z29 : Nat) (z30 : Nat) (z31 : Nat) (z32 : Nat) (z33 : Nat) (z36 : Nat) (z37 : Nat) (z38 : Nat) (z39 : Nat) (z40 : Nat) (z41 : Nat) (z42 : Nat) (z43 : Nat) (z44 : Nat) (z45 : Nat) (z46 : Nat) (z47 : Nat) (z48 : Nat) (z55 : Nat) (z56 : Nat) (z59 : Nat) (z60 : Nat) (z61 : Nat) (va : Int64) (vb : Int64) (vc : Int64) (n : Nat) (f : Nat → Int32) (hn : n ≤ 1000) (F : Nat) (hF : kad vc 5 n = F) (hC : kC γ p s m [.ref z, .long va, .long vb, .long vc].toArray c cX12_feed 11 RX12 A) (hr : meth.sig.returnType = (some .int)) (hlocks : meth.locks = false) (H : Heap) (locs : List Loc) (hw : kW γ A [(z, .inr (11, [.int 0, .int (nI n), .ref z2, .int 0, .int 0, .int 0, .int 0, .long 0, .int 0, .int 0, .ref z10, .ref z11, .ref z12, .ref z13, .ref z14, .ref z15, .ref z16, .ref z17, .ref z18, .ref z19, .int 0, .int 0, .ref z22, .ref z23, .ref z24, .ref z25, .ref z26, .ref z27, .ref z28, .ref z29, .ref z30, .ref z31, .ref z32, .ref z33, .int 0, .long 0, .ref z36, .ref z37, .ref z38, .ref z39, .ref z40, .ref z41, .ref z42, .ref z43, .ref z44, .ref z45, .ref z46, .ref z47, .ref z48, .int 0, .int 10, .int 0, .int 0, .int 0, .int 0, .ref z55, .ref z56, .int 0, .int 0, .ref z59, .ref z60, .ref z61, .int 0, .long 0])), (z2, .inl (γ.2.1 0, 1000, .inl f))] s H locs) (ls : Array Slot) (hl : lv_has ls 11 [(7, .int 19), (0, .ref z), (1, .long va), (3, .long vb), (5, .long vc)]) : W p l e ({ frames := 0, cells := 0, slots := 0, locals := 0 } : Room) s m [.ref z, .long va, .long vb, .long vc].toArray below meth c H locs 0 0 (MQ below (kQ γ A (fun r w1 => r = some (.int (nI F)) ∧ w1 = [])) [.ref z, .long va, .long vb, .long vc].toArray s 0 0 A) (F0 m 8 ls []) := by
  have hx := hC.1
  have hb := hC.2.1
  refine lv_iload hx hb dX12_feed_8 (lv_at hl 0 rfl) ?_
  refine lv_bipush (v := 24) hx hb dX12_feed_10 (by decide) ?_
  refine lv_icmp_ge (tgt := 120) hx hb dX12_feed_12 (by decide) (fun h => absurd h (by decide)) (fun _ => ?_)
  refine lv_iload hx hb dX12_feed_15 (lv_at hl 0 rfl) ?_
  refine lv_bipush (v := 8) hx hb dX12_feed_17 (by decide) ?_
  refine lv_icmp_ge (tgt := 26) hx hb dX12_feed_19 (by decide) (fun _ => ?_) (fun h => absurd (by decide) h)
  refine lv_iload hx hb dX12_feed_26 (lv_at hl 0 rfl) ?_
  refine lv_bipush (v := 16) hx hb dX12_feed_28 (by decide) ?_
  refine lv_icmp_ge (tgt := 37) hx hb dX12_feed_30 (by decide) (fun _ => ?_) (fun h => absurd (by decide) h)
  refine lv_lload hx hb dX12_feed_37 (lv_at hl 4 rfl) ?_
  refine lv_lstore (lv' := [(8, .long vc), (7, .int 19), (0, .ref z), (1, .long va), (3, .long vb), (5, .long vc)]) hx hb dX12_feed_39 hl (by decide) rfl (fun ls hl => ?_)
  refine lv_lload hx hb dX12_feed_41 (lv_at hl 0 rfl) ?_
  refine lv_bipush (v := 56) hx hb dX12_feed_43 (by decide) ?_
  refine lv_bipush (v := 8) hx hb dX12_feed_45 (by decide) ?_
  refine lv_iload hx hb dX12_feed_47 (lv_at hl 1 rfl) ?_
  refine lv_bipush (v := 7) hx hb dX12_feed_49 (by decide) ?_
  refine lv_iand hx hb dX12_feed_51 ?_
  refine lv_topi (fun x_1505 ex_1505 => ?_)
  obtain rfl : x_1505 = 3 := ex_1505.trans (by decide)
  refine lv_imul hx hb dX12_feed_52 ?_
  refine lv_topi (fun x_1506 ex_1506 => ?_)
  obtain rfl : x_1506 = 24 := ex_1506.trans (by decide)
  refine lv_isub hx hb dX12_feed_53 ?_
  refine lv_topi (fun x_1507 ex_1507 => ?_)
  obtain rfl : x_1507 = 32 := ex_1507.trans (by decide)
  refine lv_lushr hx hb dX12_feed_54 rfl ?_
  refine lv_topl (fun x_1508 ex_1508 => ?_)
  refine k_ldc2 hC gw_1393 dX12_feed_55 ?_
  refine lv_land hx hb dX12_feed_58 ?_
  refine lv_topl (fun x_1509 ex_1509 => ?_)
  refine lv_l2i hx hb dX12_feed_59 rfl ?_
  refine lv_topi (fun x_1510 ex_1510 => ?_)
  refine lv_istore (lv' := [(10, .int x_1510), (8, .long vc), (7, .int 19), (0, .ref z), (1, .long va), (3, .long vb), (5, .long vc)]) hx hb dX12_feed_60 hl (by decide) rfl (fun ls hl => ?_)
  have hk : x_1510 = kby vc 32 := by rw [ex_1510, ex_1509, k_land, ex_1508]; rfl
  refine lv_aload_n hx hb dX12_feed_62 rfl (lv_at hl 3 rfl) ?_
  refine fg_RX12_148 hC hw 0 rfl rfl dX12_feed_63 ?_
  refine lv_sipush (v := 1000) hx hb dX12_feed_66 (by decide) ?_
  refine lv_icmp_ge (tgt := 114) hx hb dX12_feed_69 (by decide) (fun c69 => ?_) (fun c69 => ?_)
  · have hfull : ¬ n < 1000 := fun h9 => absurd c69 (nI_ge h9 (by decide))
    refine lv_iinc (v := 20) (lv' := [(7, .int 20), (10, .int x_1510), (8, .long vc), (0, .ref z), (1, .long va), (3, .long vb), (5, .long vc)]) hx hb dX12_feed_114 hl (k := 2) rfl (by decide) (by decide) rfl (fun ls hl => ?_)
    refine lv_goto (tgt := 8) hx hb dX12_feed_117 (by decide) ?_
    have hst : kst n (kby vc 32) = n := by rw [← hk]; exact (by first | exact kst_full hfull | exact kst_a c76 hlt | exact kst_b c83 c90 hlt | exact kst_lo c76 c83 | exact kst_hi c76 c90)
    exact mf_20 z z2 z10 z11 z12 z13 z14 z15 z16 z17 z18 z19 z22 z23 z24 z25 z26 z27 z28 z29 z30 z31 z32 z33 z36 z37 z38 z39 z40 z41 z42 z43 z44 z45 z46 z47 z48 z55 z56 z59 z60 z61 va vb vc n f (by omega) F (by have h9 : kad vc 4 (kst n (kby vc 32)) = F := hF; rw [hst] at h9; exact h9) hC hr hlocks _ _ (kW.sub hw [0, 1] rfl rfl) _ (lv_sub hl [0, 3, 4, 5, 6] rfl)
  · have hlt : n < 1000 := by rcases Nat.lt_or_ge n 1000 with h9 | h9; exact h9; exact absurd (nI_le h9 (by omega)) c69
    refine lv_iload hx hb dX12_feed_72 (lv_at hl 0 rfl) ?_
    refine lv_bipush (v := 10) hx hb dX12_feed_74 (by decide) ?_
    refine lv_icmp_eq (tgt := 93) hx hb dX12_feed_76 (by decide) (fun c76 => ?_) (fun c76 => ?_)
    · refine lv_aload_n hx hb dX12_feed_93 rfl (lv_at hl 3 rfl) ?_
      refine fg_RX12_7 hC hw 0 rfl rfl dX12_feed_94 ?_
      refine lv_aload_n hx hb dX12_feed_97 rfl (lv_at hl 3 rfl) ?_
      refine fg_RX12_148 hC hw 0 rfl rfl dX12_feed_98 ?_
      refine lv_iload hx hb dX12_feed_101 (lv_at hl 0 rfl) ?_
      refine k_iast hC hw 1 rfl (vp_in_nI hlt (by decide)) dX12_feed_103 (fun H locs hw => ?_)
      obtain ⟨f_1511, ef_1511⟩ : ∃ g, g = upd f ((nI n) : Int32).toNatClampNeg x_1510 := ⟨_, rfl⟩
      have hw : kW γ A [(z, .inr (11, [.int 0, .int (nI n), .ref z2, .int 0, .int 0, .int 0, .int 0, .long 0, .int 0, .int 0, .ref z10, .ref z11, .ref z12, .ref z13, .ref z14, .ref z15, .ref z16, .ref z17, .ref z18, .ref z19, .int 0, .int 0, .ref z22, .ref z23, .ref z24, .ref z25, .ref z26, .ref z27, .ref z28, .ref z29, .ref z30, .ref z31, .ref z32, .ref z33, .int 0, .long 0, .ref z36, .ref z37, .ref z38, .ref z39, .ref z40, .ref z41, .ref z42, .ref z43, .ref z44, .ref z45, .ref z46, .ref z47, .ref z48, .int 0, .int 10, .int 0, .int 0, .int 0, .int 0, .ref z55, .ref z56, .int 0, .int 0, .ref z59, .ref z60, .ref z61, .int 0, .long 0])), (z2, .inl (γ.2.1 0, 1000, .inl f_1511))] s H locs := by rw [ef_1511]; exact hw
      refine lv_aload_n hx hb dX12_feed_104 rfl (lv_at hl 3 rfl) ?_
      refine lv_dup hx hb dX12_feed_105 rfl ?_
      refine fg_RX12_148 hC hw 0 rfl rfl dX12_feed_106 ?_
      refine lv_iconst (v := 1) hx hb dX12_feed_109 (by decide) ?_
      refine lv_iadd hx hb dX12_feed_110 ?_
      refine lv_topi (fun x_1512 ex_1512 => ?_)
      obtain rfl : x_1512 = (nI (n + 1)) := ex_1512.trans (nI_1 n)
      refine fs_RX12_148 hC hw 0 rfl rfl rfl (Nat.le_of_ble_eq_true rfl) dX12_feed_111 (fun H locs hw => ?_)
      have hw : kW γ A [(z, .inr (11, [.int 0, .int (nI (n + 1)), .ref z2, .int 0, .int 0, .int 0, .int 0, .long 0, .int 0, .int 0, .ref z10, .ref z11, .ref z12, .ref z13, .ref z14, .ref z15, .ref z16, .ref z17, .ref z18, .ref z19, .int 0, .int 0, .ref z22, .ref z23, .ref z24, .ref z25, .ref z26, .ref z27, .ref z28, .ref z29, .ref z30, .ref z31, .ref z32, .ref z33, .int 0, .long 0, .ref z36, .ref z37, .ref z38, .ref z39, .ref z40, .ref z41, .ref z42, .ref z43, .ref z44, .ref z45, .ref z46, .ref z47, .ref z48, .int 0, .int 10, .int 0, .int 0, .int 0, .int 0, .ref z55, .ref z56, .int 0, .int 0, .ref z59, .ref z60, .ref z61, .int 0, .long 0])), (z2, .inl (γ.2.1 0, 1000, .inl f_1511))] s H locs := hw
      refine lv_iinc (v := 20) (lv' := [(7, .int 20), (10, .int x_1510), (8, .long vc), (0, .ref z), (1, .long va), (3, .long vb), (5, .long vc)]) hx hb dX12_feed_114 hl (k := 2) rfl (by decide) (by decide) rfl (fun ls hl => ?_)
      refine lv_goto (tgt := 8) hx hb dX12_feed_117 (by decide) ?_
      have hst : kst n (kby vc 32) = (n + 1) := by rw [← hk]; exact (by first | exact kst_full hfull | exact kst_a c76 hlt | exact kst_b c83 c90 hlt | exact kst_lo c76 c83 | exact kst_hi c76 c90)
      exact mf_20 z z2 z10 z11 z12 z13 z14 z15 z16 z17 z18 z19 z22 z23 z24 z25 z26 z27 z28 z29 z30 z31 z32 z33 z36 z37 z38 z39 z40 z41 z42 z43 z44 z45 z46 z47 z48 z55 z56 z59 z60 z61 va vb vc (n + 1) f_1511 (by omega) F (by have h9 : kad vc 4 (kst n (kby vc 32)) = F := hF; rw [hst] at h9; exact h9) hC hr hlocks _ _ (kW.sub hw [0, 1] rfl rfl) _ (lv_sub hl [0, 3, 4, 5, 6] rfl)
    · refine lv_iload hx hb dX12_feed_79 (lv_at hl 0 rfl) ?_
      refine lv_bipush (v := 32) hx hb dX12_feed_81 (by decide) ?_
      refine lv_icmp_lt (tgt := 114) hx hb dX12_feed_83 (by decide) (fun c83 => ?_) (fun c83 => ?_)
      · refine lv_iinc (v := 20) (lv' := [(7, .int 20), (10, .int x_1510), (8, .long vc), (0, .ref z), (1, .long va), (3, .long vb), (5, .long vc)]) hx hb dX12_feed_114 hl (k := 2) rfl (by decide) (by decide) rfl (fun ls hl => ?_)
        refine lv_goto (tgt := 8) hx hb dX12_feed_117 (by decide) ?_
        have hst : kst n (kby vc 32) = n := by rw [← hk]; exact (by first | exact kst_full hfull | exact kst_a c76 hlt | exact kst_b c83 c90 hlt | exact kst_lo c76 c83 | exact kst_hi c76 c90)
        exact mf_20 z z2 z10 z11 z12 z13 z14 z15 z16 z17 z18 z19 z22 z23 z24 z25 z26 z27 z28 z29 z30 z31 z32 z33 z36 z37 z38 z39 z40 z41 z42 z43 z44 z45 z46 z47 z48 z55 z56 z59 z60 z61 va vb vc n f (by omega) F (by have h9 : kad vc 4 (kst n (kby vc 32)) = F := hF; rw [hst] at h9; exact h9) hC hr hlocks _ _ (kW.sub hw [0, 1] rfl rfl) _ (lv_sub hl [0, 3, 4, 5, 6] rfl)
      · refine lv_iload hx hb dX12_feed_86 (lv_at hl 0 rfl) ?_
        refine lv_bipush (v := 126) hx hb dX12_feed_88 (by decide) ?_
        refine lv_icmp_gt (tgt := 114) hx hb dX12_feed_90 (by decide) (fun c90 => ?_) (fun c90 => ?_)
        · refine lv_iinc (v := 20) (lv' := [(7, .int 20), (10, .int x_1510), (8, .long vc), (0, .ref z), (1, .long va), (3, .long vb), (5, .long vc)]) hx hb dX12_feed_114 hl (k := 2) rfl (by decide) (by decide) rfl (fun ls hl => ?_)
          refine lv_goto (tgt := 8) hx hb dX12_feed_117 (by decide) ?_
          have hst : kst n (kby vc 32) = n := by rw [← hk]; exact (by first | exact kst_full hfull | exact kst_a c76 hlt | exact kst_b c83 c90 hlt | exact kst_lo c76 c83 | exact kst_hi c76 c90)
          exact mf_20 z z2 z10 z11 z12 z13 z14 z15 z16 z17 z18 z19 z22 z23 z24 z25 z26 z27 z28 z29 z30 z31 z32 z33 z36 z37 z38 z39 z40 z41 z42 z43 z44 z45 z46 z47 z48 z55 z56 z59 z60 z61 va vb vc n f (by omega) F (by have h9 : kad vc 4 (kst n (kby vc 32)) = F := hF; rw [hst] at h9; exact h9) hC hr hlocks _ _ (kW.sub hw [0, 1] rfl rfl) _ (lv_sub hl [0, 3, 4, 5, 6] rfl)
        · refine lv_aload_n hx hb dX12_feed_93 rfl (lv_at hl 3 rfl) ?_
          refine fg_RX12_7 hC hw 0 rfl rfl dX12_feed_94 ?_
          refine lv_aload_n hx hb dX12_feed_97 rfl (lv_at hl 3 rfl) ?_
          refine fg_RX12_148 hC hw 0 rfl rfl dX12_feed_98 ?_
          refine lv_iload hx hb dX12_feed_101 (lv_at hl 0 rfl) ?_
          refine k_iast hC hw 1 rfl (vp_in_nI hlt (by decide)) dX12_feed_103 (fun H locs hw => ?_)
          obtain ⟨f_1513, ef_1513⟩ : ∃ g, g = upd f ((nI n) : Int32).toNatClampNeg x_1510 := ⟨_, rfl⟩
          have hw : kW γ A [(z, .inr (11, [.int 0, .int (nI n), .ref z2, .int 0, .int 0, .int 0, .int 0, .long 0, .int 0, .int 0, .ref z10, .ref z11, .ref z12, .ref z13, .ref z14, .ref z15, .ref z16, .ref z17, .ref z18, .ref z19, .int 0, .int 0, .ref z22, .ref z23, .ref z24, .ref z25, .ref z26, .ref z27, .ref z28, .ref z29, .ref z30, .ref z31, .ref z32, .ref z33, .int 0, .long 0, .ref z36, .ref z37, .ref z38, .ref z39, .ref z40, .ref z41, .ref z42, .ref z43, .ref z44, .ref z45, .ref z46, .ref z47, .ref z48, .int 0, .int 10, .int 0, .int 0, .int 0, .int 0, .ref z55, .ref z56, .int 0, .int 0, .ref z59, .ref z60, .ref z61, .int 0, .long 0])), (z2, .inl (γ.2.1 0, 1000, .inl f_1513))] s H locs := by rw [ef_1513]; exact hw
          refine lv_aload_n hx hb dX12_feed_104 rfl (lv_at hl 3 rfl) ?_
          refine lv_dup hx hb dX12_feed_105 rfl ?_
          refine fg_RX12_148 hC hw 0 rfl rfl dX12_feed_106 ?_
          refine lv_iconst (v := 1) hx hb dX12_feed_109 (by decide) ?_
          refine lv_iadd hx hb dX12_feed_110 ?_
          refine lv_topi (fun x_1514 ex_1514 => ?_)
          obtain rfl : x_1514 = (nI (n + 1)) := ex_1514.trans (nI_1 n)
          refine fs_RX12_148 hC hw 0 rfl rfl rfl (Nat.le_of_ble_eq_true rfl) dX12_feed_111 (fun H locs hw => ?_)
          have hw : kW γ A [(z, .inr (11, [.int 0, .int (nI (n + 1)), .ref z2, .int 0, .int 0, .int 0, .int 0, .long 0, .int 0, .int 0, .ref z10, .ref z11, .ref z12, .ref z13, .ref z14, .ref z15, .ref z16, .ref z17, .ref z18, .ref z19, .int 0, .int 0, .ref z22, .ref z23, .ref z24, .ref z25, .ref z26, .ref z27, .ref z28, .ref z29, .ref z30, .ref z31, .ref z32, .ref z33, .int 0, .long 0, .ref z36, .ref z37, .ref z38, .ref z39, .ref z40, .ref z41, .ref z42, .ref z43, .ref z44, .ref z45, .ref z46, .ref z47, .ref z48, .int 0, .int 10, .int 0, .int 0, .int 0, .int 0, .ref z55, .ref z56, .int 0, .int 0, .ref z59, .ref z60, .ref z61, .int 0, .long 0])), (z2, .inl (γ.2.1 0, 1000, .inl f_1513))] s H locs := hw
          refine lv_iinc (v := 20) (lv' := [(7, .int 20), (10, .int x_1510), (8, .long vc), (0, .ref z), (1, .long va), (3, .long vb), (5, .long vc)]) hx hb dX12_feed_114 hl (k := 2) rfl (by decide) (by decide) rfl (fun ls hl => ?_)
          refine lv_goto (tgt := 8) hx hb dX12_feed_117 (by decide) ?_
          have hst : kst n (kby vc 32) = (n + 1) := by rw [← hk]; exact (by first | exact kst_full hfull | exact kst_a c76 hlt | exact kst_b c83 c90 hlt | exact kst_lo c76 c83 | exact kst_hi c76 c90)
          exact mf_20 z z2 z10 z11 z12 z13 z14 z15 z16 z17 z18 z19 z22 z23 z24 z25 z26 z27 z28 z29 z30 z31 z32 z33 z36 z37 z38 z39 z40 z41 z42 z43 z44 z45 z46 z47 z48 z55 z56 z59 z60 z61 va vb vc (n + 1) f_1513 (by omega) F (by have h9 : kad vc 4 (kst n (kby vc 32)) = F := hF; rw [hst] at h9; exact h9) hC hr hlocks _ _ (kW.sub hw [0, 1] rfl rfl) _ (lv_sub hl [0, 3, 4, 5, 6] rfl)

set_option maxHeartbeats 4000000 in
set_option maxRecDepth 100000 in
theorem mf_18 {γ : kΓ} {l : Launch} {p : Program} {e : Env} {s : State} {m : MethodId} {below : List Frame} {meth : Method} {c : Code} {A : Nat → Prop} (z : Nat) (z2 : Nat) (z10 : Nat) (z11 : Nat) (z12 : Nat) (z13 : Nat) (z14 : Nat) (z15 : Nat) (z16 : Nat) (z17 : Nat) (z18 : Nat) (z19 : Nat) (z22 : Nat) (z23 : Nat) (z24 : Nat) (z25 : Nat) (z26 : Nat) (z27 : Nat) (z28 : Nat) (z29 : Nat) (z30 : Nat) (z31 : Nat) (z32 : Nat) (z33 : Nat) (z36 : Nat) (z37 : Nat) (z38 : Nat) (z39 : Nat) (z40 : Nat) (z41 : Nat) (z42 : Nat) (z43 : Nat) (z44 : Nat) (z45 : Nat) (z46 : Nat) (z47 : Nat) (z48 : Nat) (z55 : Nat) (z56 : Nat) (z59 : Nat) (z60 : Nat) (z61 : Nat) (va : Int64) (vb : Int64) (vc : Int64) (n : Nat) (f : Nat → Int32) (hn : n ≤ 1000) (F : Nat) (hF : kad vc 6 n = F) (hC : kC γ p s m [.ref z, .long va, .long vb, .long vc].toArray c cX12_feed 11 RX12 A) (hr : meth.sig.returnType = (some .int)) (hlocks : meth.locks = false) (H : Heap) (locs : List Loc) (hw : kW γ A [(z, .inr (11, [.int 0, .int (nI n), .ref z2, .int 0, .int 0, .int 0, .int 0, .long 0, .int 0, .int 0, .ref z10, .ref z11, .ref z12, .ref z13, .ref z14, .ref z15, .ref z16, .ref z17, .ref z18, .ref z19, .int 0, .int 0, .ref z22, .ref z23, .ref z24, .ref z25, .ref z26, .ref z27, .ref z28, .ref z29, .ref z30, .ref z31, .ref z32, .ref z33, .int 0, .long 0, .ref z36, .ref z37, .ref z38, .ref z39, .ref z40, .ref z41, .ref z42, .ref z43, .ref z44, .ref z45, .ref z46, .ref z47, .ref z48, .int 0, .int 10, .int 0, .int 0, .int 0, .int 0, .ref z55, .ref z56, .int 0, .int 0, .ref z59, .ref z60, .ref z61, .int 0, .long 0])), (z2, .inl (γ.2.1 0, 1000, .inl f))] s H locs) (ls : Array Slot) (hl : lv_has ls 11 [(7, .int 18), (0, .ref z), (1, .long va), (3, .long vb), (5, .long vc)]) : W p l e ({ frames := 0, cells := 0, slots := 0, locals := 0 } : Room) s m [.ref z, .long va, .long vb, .long vc].toArray below meth c H locs 0 0 (MQ below (kQ γ A (fun r w1 => r = some (.int (nI F)) ∧ w1 = [])) [.ref z, .long va, .long vb, .long vc].toArray s 0 0 A) (F0 m 8 ls []) := by
  have hx := hC.1
  have hb := hC.2.1
  refine lv_iload hx hb dX12_feed_8 (lv_at hl 0 rfl) ?_
  refine lv_bipush (v := 24) hx hb dX12_feed_10 (by decide) ?_
  refine lv_icmp_ge (tgt := 120) hx hb dX12_feed_12 (by decide) (fun h => absurd h (by decide)) (fun _ => ?_)
  refine lv_iload hx hb dX12_feed_15 (lv_at hl 0 rfl) ?_
  refine lv_bipush (v := 8) hx hb dX12_feed_17 (by decide) ?_
  refine lv_icmp_ge (tgt := 26) hx hb dX12_feed_19 (by decide) (fun _ => ?_) (fun h => absurd (by decide) h)
  refine lv_iload hx hb dX12_feed_26 (lv_at hl 0 rfl) ?_
  refine lv_bipush (v := 16) hx hb dX12_feed_28 (by decide) ?_
  refine lv_icmp_ge (tgt := 37) hx hb dX12_feed_30 (by decide) (fun _ => ?_) (fun h => absurd (by decide) h)
  refine lv_lload hx hb dX12_feed_37 (lv_at hl 4 rfl) ?_
  refine lv_lstore (lv' := [(8, .long vc), (7, .int 18), (0, .ref z), (1, .long va), (3, .long vb), (5, .long vc)]) hx hb dX12_feed_39 hl (by decide) rfl (fun ls hl => ?_)
  refine lv_lload hx hb dX12_feed_41 (lv_at hl 0 rfl) ?_
  refine lv_bipush (v := 56) hx hb dX12_feed_43 (by decide) ?_
  refine lv_bipush (v := 8) hx hb dX12_feed_45 (by decide) ?_
  refine lv_iload hx hb dX12_feed_47 (lv_at hl 1 rfl) ?_
  refine lv_bipush (v := 7) hx hb dX12_feed_49 (by decide) ?_
  refine lv_iand hx hb dX12_feed_51 ?_
  refine lv_topi (fun x_1515 ex_1515 => ?_)
  obtain rfl : x_1515 = 2 := ex_1515.trans (by decide)
  refine lv_imul hx hb dX12_feed_52 ?_
  refine lv_topi (fun x_1516 ex_1516 => ?_)
  obtain rfl : x_1516 = 16 := ex_1516.trans (by decide)
  refine lv_isub hx hb dX12_feed_53 ?_
  refine lv_topi (fun x_1517 ex_1517 => ?_)
  obtain rfl : x_1517 = 40 := ex_1517.trans (by decide)
  refine lv_lushr hx hb dX12_feed_54 rfl ?_
  refine lv_topl (fun x_1518 ex_1518 => ?_)
  refine k_ldc2 hC gw_1393 dX12_feed_55 ?_
  refine lv_land hx hb dX12_feed_58 ?_
  refine lv_topl (fun x_1519 ex_1519 => ?_)
  refine lv_l2i hx hb dX12_feed_59 rfl ?_
  refine lv_topi (fun x_1520 ex_1520 => ?_)
  refine lv_istore (lv' := [(10, .int x_1520), (8, .long vc), (7, .int 18), (0, .ref z), (1, .long va), (3, .long vb), (5, .long vc)]) hx hb dX12_feed_60 hl (by decide) rfl (fun ls hl => ?_)
  have hk : x_1520 = kby vc 40 := by rw [ex_1520, ex_1519, k_land, ex_1518]; rfl
  refine lv_aload_n hx hb dX12_feed_62 rfl (lv_at hl 3 rfl) ?_
  refine fg_RX12_148 hC hw 0 rfl rfl dX12_feed_63 ?_
  refine lv_sipush (v := 1000) hx hb dX12_feed_66 (by decide) ?_
  refine lv_icmp_ge (tgt := 114) hx hb dX12_feed_69 (by decide) (fun c69 => ?_) (fun c69 => ?_)
  · have hfull : ¬ n < 1000 := fun h9 => absurd c69 (nI_ge h9 (by decide))
    refine lv_iinc (v := 19) (lv' := [(7, .int 19), (10, .int x_1520), (8, .long vc), (0, .ref z), (1, .long va), (3, .long vb), (5, .long vc)]) hx hb dX12_feed_114 hl (k := 2) rfl (by decide) (by decide) rfl (fun ls hl => ?_)
    refine lv_goto (tgt := 8) hx hb dX12_feed_117 (by decide) ?_
    have hst : kst n (kby vc 40) = n := by rw [← hk]; exact (by first | exact kst_full hfull | exact kst_a c76 hlt | exact kst_b c83 c90 hlt | exact kst_lo c76 c83 | exact kst_hi c76 c90)
    exact mf_19 z z2 z10 z11 z12 z13 z14 z15 z16 z17 z18 z19 z22 z23 z24 z25 z26 z27 z28 z29 z30 z31 z32 z33 z36 z37 z38 z39 z40 z41 z42 z43 z44 z45 z46 z47 z48 z55 z56 z59 z60 z61 va vb vc n f (by omega) F (by have h9 : kad vc 5 (kst n (kby vc 40)) = F := hF; rw [hst] at h9; exact h9) hC hr hlocks _ _ (kW.sub hw [0, 1] rfl rfl) _ (lv_sub hl [0, 3, 4, 5, 6] rfl)
  · have hlt : n < 1000 := by rcases Nat.lt_or_ge n 1000 with h9 | h9; exact h9; exact absurd (nI_le h9 (by omega)) c69
    refine lv_iload hx hb dX12_feed_72 (lv_at hl 0 rfl) ?_
    refine lv_bipush (v := 10) hx hb dX12_feed_74 (by decide) ?_
    refine lv_icmp_eq (tgt := 93) hx hb dX12_feed_76 (by decide) (fun c76 => ?_) (fun c76 => ?_)
    · refine lv_aload_n hx hb dX12_feed_93 rfl (lv_at hl 3 rfl) ?_
      refine fg_RX12_7 hC hw 0 rfl rfl dX12_feed_94 ?_
      refine lv_aload_n hx hb dX12_feed_97 rfl (lv_at hl 3 rfl) ?_
      refine fg_RX12_148 hC hw 0 rfl rfl dX12_feed_98 ?_
      refine lv_iload hx hb dX12_feed_101 (lv_at hl 0 rfl) ?_
      refine k_iast hC hw 1 rfl (vp_in_nI hlt (by decide)) dX12_feed_103 (fun H locs hw => ?_)
      obtain ⟨f_1521, ef_1521⟩ : ∃ g, g = upd f ((nI n) : Int32).toNatClampNeg x_1520 := ⟨_, rfl⟩
      have hw : kW γ A [(z, .inr (11, [.int 0, .int (nI n), .ref z2, .int 0, .int 0, .int 0, .int 0, .long 0, .int 0, .int 0, .ref z10, .ref z11, .ref z12, .ref z13, .ref z14, .ref z15, .ref z16, .ref z17, .ref z18, .ref z19, .int 0, .int 0, .ref z22, .ref z23, .ref z24, .ref z25, .ref z26, .ref z27, .ref z28, .ref z29, .ref z30, .ref z31, .ref z32, .ref z33, .int 0, .long 0, .ref z36, .ref z37, .ref z38, .ref z39, .ref z40, .ref z41, .ref z42, .ref z43, .ref z44, .ref z45, .ref z46, .ref z47, .ref z48, .int 0, .int 10, .int 0, .int 0, .int 0, .int 0, .ref z55, .ref z56, .int 0, .int 0, .ref z59, .ref z60, .ref z61, .int 0, .long 0])), (z2, .inl (γ.2.1 0, 1000, .inl f_1521))] s H locs := by rw [ef_1521]; exact hw
      refine lv_aload_n hx hb dX12_feed_104 rfl (lv_at hl 3 rfl) ?_
      refine lv_dup hx hb dX12_feed_105 rfl ?_
      refine fg_RX12_148 hC hw 0 rfl rfl dX12_feed_106 ?_
      refine lv_iconst (v := 1) hx hb dX12_feed_109 (by decide) ?_
      refine lv_iadd hx hb dX12_feed_110 ?_
      refine lv_topi (fun x_1522 ex_1522 => ?_)
      obtain rfl : x_1522 = (nI (n + 1)) := ex_1522.trans (nI_1 n)
      refine fs_RX12_148 hC hw 0 rfl rfl rfl (Nat.le_of_ble_eq_true rfl) dX12_feed_111 (fun H locs hw => ?_)
      have hw : kW γ A [(z, .inr (11, [.int 0, .int (nI (n + 1)), .ref z2, .int 0, .int 0, .int 0, .int 0, .long 0, .int 0, .int 0, .ref z10, .ref z11, .ref z12, .ref z13, .ref z14, .ref z15, .ref z16, .ref z17, .ref z18, .ref z19, .int 0, .int 0, .ref z22, .ref z23, .ref z24, .ref z25, .ref z26, .ref z27, .ref z28, .ref z29, .ref z30, .ref z31, .ref z32, .ref z33, .int 0, .long 0, .ref z36, .ref z37, .ref z38, .ref z39, .ref z40, .ref z41, .ref z42, .ref z43, .ref z44, .ref z45, .ref z46, .ref z47, .ref z48, .int 0, .int 10, .int 0, .int 0, .int 0, .int 0, .ref z55, .ref z56, .int 0, .int 0, .ref z59, .ref z60, .ref z61, .int 0, .long 0])), (z2, .inl (γ.2.1 0, 1000, .inl f_1521))] s H locs := hw
      refine lv_iinc (v := 19) (lv' := [(7, .int 19), (10, .int x_1520), (8, .long vc), (0, .ref z), (1, .long va), (3, .long vb), (5, .long vc)]) hx hb dX12_feed_114 hl (k := 2) rfl (by decide) (by decide) rfl (fun ls hl => ?_)
      refine lv_goto (tgt := 8) hx hb dX12_feed_117 (by decide) ?_
      have hst : kst n (kby vc 40) = (n + 1) := by rw [← hk]; exact (by first | exact kst_full hfull | exact kst_a c76 hlt | exact kst_b c83 c90 hlt | exact kst_lo c76 c83 | exact kst_hi c76 c90)
      exact mf_19 z z2 z10 z11 z12 z13 z14 z15 z16 z17 z18 z19 z22 z23 z24 z25 z26 z27 z28 z29 z30 z31 z32 z33 z36 z37 z38 z39 z40 z41 z42 z43 z44 z45 z46 z47 z48 z55 z56 z59 z60 z61 va vb vc (n + 1) f_1521 (by omega) F (by have h9 : kad vc 5 (kst n (kby vc 40)) = F := hF; rw [hst] at h9; exact h9) hC hr hlocks _ _ (kW.sub hw [0, 1] rfl rfl) _ (lv_sub hl [0, 3, 4, 5, 6] rfl)
    · refine lv_iload hx hb dX12_feed_79 (lv_at hl 0 rfl) ?_
      refine lv_bipush (v := 32) hx hb dX12_feed_81 (by decide) ?_
      refine lv_icmp_lt (tgt := 114) hx hb dX12_feed_83 (by decide) (fun c83 => ?_) (fun c83 => ?_)
      · refine lv_iinc (v := 19) (lv' := [(7, .int 19), (10, .int x_1520), (8, .long vc), (0, .ref z), (1, .long va), (3, .long vb), (5, .long vc)]) hx hb dX12_feed_114 hl (k := 2) rfl (by decide) (by decide) rfl (fun ls hl => ?_)
        refine lv_goto (tgt := 8) hx hb dX12_feed_117 (by decide) ?_
        have hst : kst n (kby vc 40) = n := by rw [← hk]; exact (by first | exact kst_full hfull | exact kst_a c76 hlt | exact kst_b c83 c90 hlt | exact kst_lo c76 c83 | exact kst_hi c76 c90)
        exact mf_19 z z2 z10 z11 z12 z13 z14 z15 z16 z17 z18 z19 z22 z23 z24 z25 z26 z27 z28 z29 z30 z31 z32 z33 z36 z37 z38 z39 z40 z41 z42 z43 z44 z45 z46 z47 z48 z55 z56 z59 z60 z61 va vb vc n f (by omega) F (by have h9 : kad vc 5 (kst n (kby vc 40)) = F := hF; rw [hst] at h9; exact h9) hC hr hlocks _ _ (kW.sub hw [0, 1] rfl rfl) _ (lv_sub hl [0, 3, 4, 5, 6] rfl)
      · refine lv_iload hx hb dX12_feed_86 (lv_at hl 0 rfl) ?_
        refine lv_bipush (v := 126) hx hb dX12_feed_88 (by decide) ?_
        refine lv_icmp_gt (tgt := 114) hx hb dX12_feed_90 (by decide) (fun c90 => ?_) (fun c90 => ?_)
        · refine lv_iinc (v := 19) (lv' := [(7, .int 19), (10, .int x_1520), (8, .long vc), (0, .ref z), (1, .long va), (3, .long vb), (5, .long vc)]) hx hb dX12_feed_114 hl (k := 2) rfl (by decide) (by decide) rfl (fun ls hl => ?_)
          refine lv_goto (tgt := 8) hx hb dX12_feed_117 (by decide) ?_
          have hst : kst n (kby vc 40) = n := by rw [← hk]; exact (by first | exact kst_full hfull | exact kst_a c76 hlt | exact kst_b c83 c90 hlt | exact kst_lo c76 c83 | exact kst_hi c76 c90)
          exact mf_19 z z2 z10 z11 z12 z13 z14 z15 z16 z17 z18 z19 z22 z23 z24 z25 z26 z27 z28 z29 z30 z31 z32 z33 z36 z37 z38 z39 z40 z41 z42 z43 z44 z45 z46 z47 z48 z55 z56 z59 z60 z61 va vb vc n f (by omega) F (by have h9 : kad vc 5 (kst n (kby vc 40)) = F := hF; rw [hst] at h9; exact h9) hC hr hlocks _ _ (kW.sub hw [0, 1] rfl rfl) _ (lv_sub hl [0, 3, 4, 5, 6] rfl)
        · refine lv_aload_n hx hb dX12_feed_93 rfl (lv_at hl 3 rfl) ?_
          refine fg_RX12_7 hC hw 0 rfl rfl dX12_feed_94 ?_
          refine lv_aload_n hx hb dX12_feed_97 rfl (lv_at hl 3 rfl) ?_
          refine fg_RX12_148 hC hw 0 rfl rfl dX12_feed_98 ?_
          refine lv_iload hx hb dX12_feed_101 (lv_at hl 0 rfl) ?_
          refine k_iast hC hw 1 rfl (vp_in_nI hlt (by decide)) dX12_feed_103 (fun H locs hw => ?_)
          obtain ⟨f_1523, ef_1523⟩ : ∃ g, g = upd f ((nI n) : Int32).toNatClampNeg x_1520 := ⟨_, rfl⟩
          have hw : kW γ A [(z, .inr (11, [.int 0, .int (nI n), .ref z2, .int 0, .int 0, .int 0, .int 0, .long 0, .int 0, .int 0, .ref z10, .ref z11, .ref z12, .ref z13, .ref z14, .ref z15, .ref z16, .ref z17, .ref z18, .ref z19, .int 0, .int 0, .ref z22, .ref z23, .ref z24, .ref z25, .ref z26, .ref z27, .ref z28, .ref z29, .ref z30, .ref z31, .ref z32, .ref z33, .int 0, .long 0, .ref z36, .ref z37, .ref z38, .ref z39, .ref z40, .ref z41, .ref z42, .ref z43, .ref z44, .ref z45, .ref z46, .ref z47, .ref z48, .int 0, .int 10, .int 0, .int 0, .int 0, .int 0, .ref z55, .ref z56, .int 0, .int 0, .ref z59, .ref z60, .ref z61, .int 0, .long 0])), (z2, .inl (γ.2.1 0, 1000, .inl f_1523))] s H locs := by rw [ef_1523]; exact hw
          refine lv_aload_n hx hb dX12_feed_104 rfl (lv_at hl 3 rfl) ?_
          refine lv_dup hx hb dX12_feed_105 rfl ?_
          refine fg_RX12_148 hC hw 0 rfl rfl dX12_feed_106 ?_
          refine lv_iconst (v := 1) hx hb dX12_feed_109 (by decide) ?_
          refine lv_iadd hx hb dX12_feed_110 ?_
          refine lv_topi (fun x_1524 ex_1524 => ?_)
          obtain rfl : x_1524 = (nI (n + 1)) := ex_1524.trans (nI_1 n)
          refine fs_RX12_148 hC hw 0 rfl rfl rfl (Nat.le_of_ble_eq_true rfl) dX12_feed_111 (fun H locs hw => ?_)
          have hw : kW γ A [(z, .inr (11, [.int 0, .int (nI (n + 1)), .ref z2, .int 0, .int 0, .int 0, .int 0, .long 0, .int 0, .int 0, .ref z10, .ref z11, .ref z12, .ref z13, .ref z14, .ref z15, .ref z16, .ref z17, .ref z18, .ref z19, .int 0, .int 0, .ref z22, .ref z23, .ref z24, .ref z25, .ref z26, .ref z27, .ref z28, .ref z29, .ref z30, .ref z31, .ref z32, .ref z33, .int 0, .long 0, .ref z36, .ref z37, .ref z38, .ref z39, .ref z40, .ref z41, .ref z42, .ref z43, .ref z44, .ref z45, .ref z46, .ref z47, .ref z48, .int 0, .int 10, .int 0, .int 0, .int 0, .int 0, .ref z55, .ref z56, .int 0, .int 0, .ref z59, .ref z60, .ref z61, .int 0, .long 0])), (z2, .inl (γ.2.1 0, 1000, .inl f_1523))] s H locs := hw
          refine lv_iinc (v := 19) (lv' := [(7, .int 19), (10, .int x_1520), (8, .long vc), (0, .ref z), (1, .long va), (3, .long vb), (5, .long vc)]) hx hb dX12_feed_114 hl (k := 2) rfl (by decide) (by decide) rfl (fun ls hl => ?_)
          refine lv_goto (tgt := 8) hx hb dX12_feed_117 (by decide) ?_
          have hst : kst n (kby vc 40) = (n + 1) := by rw [← hk]; exact (by first | exact kst_full hfull | exact kst_a c76 hlt | exact kst_b c83 c90 hlt | exact kst_lo c76 c83 | exact kst_hi c76 c90)
          exact mf_19 z z2 z10 z11 z12 z13 z14 z15 z16 z17 z18 z19 z22 z23 z24 z25 z26 z27 z28 z29 z30 z31 z32 z33 z36 z37 z38 z39 z40 z41 z42 z43 z44 z45 z46 z47 z48 z55 z56 z59 z60 z61 va vb vc (n + 1) f_1523 (by omega) F (by have h9 : kad vc 5 (kst n (kby vc 40)) = F := hF; rw [hst] at h9; exact h9) hC hr hlocks _ _ (kW.sub hw [0, 1] rfl rfl) _ (lv_sub hl [0, 3, 4, 5, 6] rfl)

set_option maxHeartbeats 4000000 in
set_option maxRecDepth 100000 in
theorem mf_17 {γ : kΓ} {l : Launch} {p : Program} {e : Env} {s : State} {m : MethodId} {below : List Frame} {meth : Method} {c : Code} {A : Nat → Prop} (z : Nat) (z2 : Nat) (z10 : Nat) (z11 : Nat) (z12 : Nat) (z13 : Nat) (z14 : Nat) (z15 : Nat) (z16 : Nat) (z17 : Nat) (z18 : Nat) (z19 : Nat) (z22 : Nat) (z23 : Nat) (z24 : Nat) (z25 : Nat) (z26 : Nat) (z27 : Nat) (z28 : Nat) (z29 : Nat) (z30 : Nat) (z31 : Nat) (z32 : Nat) (z33 : Nat) (z36 : Nat) (z37 : Nat) (z38 : Nat) (z39 : Nat) (z40 : Nat) (z41 : Nat) (z42 : Nat) (z43 : Nat) (z44 : Nat) (z45 : Nat) (z46 : Nat) (z47 : Nat) (z48 : Nat) (z55 : Nat) (z56 : Nat) (z59 : Nat) (z60 : Nat) (z61 : Nat) (va : Int64) (vb : Int64) (vc : Int64) (n : Nat) (f : Nat → Int32) (hn : n ≤ 1000) (F : Nat) (hF : kad vc 7 n = F) (hC : kC γ p s m [.ref z, .long va, .long vb, .long vc].toArray c cX12_feed 11 RX12 A) (hr : meth.sig.returnType = (some .int)) (hlocks : meth.locks = false) (H : Heap) (locs : List Loc) (hw : kW γ A [(z, .inr (11, [.int 0, .int (nI n), .ref z2, .int 0, .int 0, .int 0, .int 0, .long 0, .int 0, .int 0, .ref z10, .ref z11, .ref z12, .ref z13, .ref z14, .ref z15, .ref z16, .ref z17, .ref z18, .ref z19, .int 0, .int 0, .ref z22, .ref z23, .ref z24, .ref z25, .ref z26, .ref z27, .ref z28, .ref z29, .ref z30, .ref z31, .ref z32, .ref z33, .int 0, .long 0, .ref z36, .ref z37, .ref z38, .ref z39, .ref z40, .ref z41, .ref z42, .ref z43, .ref z44, .ref z45, .ref z46, .ref z47, .ref z48, .int 0, .int 10, .int 0, .int 0, .int 0, .int 0, .ref z55, .ref z56, .int 0, .int 0, .ref z59, .ref z60, .ref z61, .int 0, .long 0])), (z2, .inl (γ.2.1 0, 1000, .inl f))] s H locs) (ls : Array Slot) (hl : lv_has ls 11 [(7, .int 17), (0, .ref z), (1, .long va), (3, .long vb), (5, .long vc)]) : W p l e ({ frames := 0, cells := 0, slots := 0, locals := 0 } : Room) s m [.ref z, .long va, .long vb, .long vc].toArray below meth c H locs 0 0 (MQ below (kQ γ A (fun r w1 => r = some (.int (nI F)) ∧ w1 = [])) [.ref z, .long va, .long vb, .long vc].toArray s 0 0 A) (F0 m 8 ls []) := by
  have hx := hC.1
  have hb := hC.2.1
  refine lv_iload hx hb dX12_feed_8 (lv_at hl 0 rfl) ?_
  refine lv_bipush (v := 24) hx hb dX12_feed_10 (by decide) ?_
  refine lv_icmp_ge (tgt := 120) hx hb dX12_feed_12 (by decide) (fun h => absurd h (by decide)) (fun _ => ?_)
  refine lv_iload hx hb dX12_feed_15 (lv_at hl 0 rfl) ?_
  refine lv_bipush (v := 8) hx hb dX12_feed_17 (by decide) ?_
  refine lv_icmp_ge (tgt := 26) hx hb dX12_feed_19 (by decide) (fun _ => ?_) (fun h => absurd (by decide) h)
  refine lv_iload hx hb dX12_feed_26 (lv_at hl 0 rfl) ?_
  refine lv_bipush (v := 16) hx hb dX12_feed_28 (by decide) ?_
  refine lv_icmp_ge (tgt := 37) hx hb dX12_feed_30 (by decide) (fun _ => ?_) (fun h => absurd (by decide) h)
  refine lv_lload hx hb dX12_feed_37 (lv_at hl 4 rfl) ?_
  refine lv_lstore (lv' := [(8, .long vc), (7, .int 17), (0, .ref z), (1, .long va), (3, .long vb), (5, .long vc)]) hx hb dX12_feed_39 hl (by decide) rfl (fun ls hl => ?_)
  refine lv_lload hx hb dX12_feed_41 (lv_at hl 0 rfl) ?_
  refine lv_bipush (v := 56) hx hb dX12_feed_43 (by decide) ?_
  refine lv_bipush (v := 8) hx hb dX12_feed_45 (by decide) ?_
  refine lv_iload hx hb dX12_feed_47 (lv_at hl 1 rfl) ?_
  refine lv_bipush (v := 7) hx hb dX12_feed_49 (by decide) ?_
  refine lv_iand hx hb dX12_feed_51 ?_
  refine lv_topi (fun x_1525 ex_1525 => ?_)
  obtain rfl : x_1525 = 1 := ex_1525.trans (by decide)
  refine lv_imul hx hb dX12_feed_52 ?_
  refine lv_topi (fun x_1526 ex_1526 => ?_)
  obtain rfl : x_1526 = 8 := ex_1526.trans (by decide)
  refine lv_isub hx hb dX12_feed_53 ?_
  refine lv_topi (fun x_1527 ex_1527 => ?_)
  obtain rfl : x_1527 = 48 := ex_1527.trans (by decide)
  refine lv_lushr hx hb dX12_feed_54 rfl ?_
  refine lv_topl (fun x_1528 ex_1528 => ?_)
  refine k_ldc2 hC gw_1393 dX12_feed_55 ?_
  refine lv_land hx hb dX12_feed_58 ?_
  refine lv_topl (fun x_1529 ex_1529 => ?_)
  refine lv_l2i hx hb dX12_feed_59 rfl ?_
  refine lv_topi (fun x_1530 ex_1530 => ?_)
  refine lv_istore (lv' := [(10, .int x_1530), (8, .long vc), (7, .int 17), (0, .ref z), (1, .long va), (3, .long vb), (5, .long vc)]) hx hb dX12_feed_60 hl (by decide) rfl (fun ls hl => ?_)
  have hk : x_1530 = kby vc 48 := by rw [ex_1530, ex_1529, k_land, ex_1528]; rfl
  refine lv_aload_n hx hb dX12_feed_62 rfl (lv_at hl 3 rfl) ?_
  refine fg_RX12_148 hC hw 0 rfl rfl dX12_feed_63 ?_
  refine lv_sipush (v := 1000) hx hb dX12_feed_66 (by decide) ?_
  refine lv_icmp_ge (tgt := 114) hx hb dX12_feed_69 (by decide) (fun c69 => ?_) (fun c69 => ?_)
  · have hfull : ¬ n < 1000 := fun h9 => absurd c69 (nI_ge h9 (by decide))
    refine lv_iinc (v := 18) (lv' := [(7, .int 18), (10, .int x_1530), (8, .long vc), (0, .ref z), (1, .long va), (3, .long vb), (5, .long vc)]) hx hb dX12_feed_114 hl (k := 2) rfl (by decide) (by decide) rfl (fun ls hl => ?_)
    refine lv_goto (tgt := 8) hx hb dX12_feed_117 (by decide) ?_
    have hst : kst n (kby vc 48) = n := by rw [← hk]; exact (by first | exact kst_full hfull | exact kst_a c76 hlt | exact kst_b c83 c90 hlt | exact kst_lo c76 c83 | exact kst_hi c76 c90)
    exact mf_18 z z2 z10 z11 z12 z13 z14 z15 z16 z17 z18 z19 z22 z23 z24 z25 z26 z27 z28 z29 z30 z31 z32 z33 z36 z37 z38 z39 z40 z41 z42 z43 z44 z45 z46 z47 z48 z55 z56 z59 z60 z61 va vb vc n f (by omega) F (by have h9 : kad vc 6 (kst n (kby vc 48)) = F := hF; rw [hst] at h9; exact h9) hC hr hlocks _ _ (kW.sub hw [0, 1] rfl rfl) _ (lv_sub hl [0, 3, 4, 5, 6] rfl)
  · have hlt : n < 1000 := by rcases Nat.lt_or_ge n 1000 with h9 | h9; exact h9; exact absurd (nI_le h9 (by omega)) c69
    refine lv_iload hx hb dX12_feed_72 (lv_at hl 0 rfl) ?_
    refine lv_bipush (v := 10) hx hb dX12_feed_74 (by decide) ?_
    refine lv_icmp_eq (tgt := 93) hx hb dX12_feed_76 (by decide) (fun c76 => ?_) (fun c76 => ?_)
    · refine lv_aload_n hx hb dX12_feed_93 rfl (lv_at hl 3 rfl) ?_
      refine fg_RX12_7 hC hw 0 rfl rfl dX12_feed_94 ?_
      refine lv_aload_n hx hb dX12_feed_97 rfl (lv_at hl 3 rfl) ?_
      refine fg_RX12_148 hC hw 0 rfl rfl dX12_feed_98 ?_
      refine lv_iload hx hb dX12_feed_101 (lv_at hl 0 rfl) ?_
      refine k_iast hC hw 1 rfl (vp_in_nI hlt (by decide)) dX12_feed_103 (fun H locs hw => ?_)
      obtain ⟨f_1531, ef_1531⟩ : ∃ g, g = upd f ((nI n) : Int32).toNatClampNeg x_1530 := ⟨_, rfl⟩
      have hw : kW γ A [(z, .inr (11, [.int 0, .int (nI n), .ref z2, .int 0, .int 0, .int 0, .int 0, .long 0, .int 0, .int 0, .ref z10, .ref z11, .ref z12, .ref z13, .ref z14, .ref z15, .ref z16, .ref z17, .ref z18, .ref z19, .int 0, .int 0, .ref z22, .ref z23, .ref z24, .ref z25, .ref z26, .ref z27, .ref z28, .ref z29, .ref z30, .ref z31, .ref z32, .ref z33, .int 0, .long 0, .ref z36, .ref z37, .ref z38, .ref z39, .ref z40, .ref z41, .ref z42, .ref z43, .ref z44, .ref z45, .ref z46, .ref z47, .ref z48, .int 0, .int 10, .int 0, .int 0, .int 0, .int 0, .ref z55, .ref z56, .int 0, .int 0, .ref z59, .ref z60, .ref z61, .int 0, .long 0])), (z2, .inl (γ.2.1 0, 1000, .inl f_1531))] s H locs := by rw [ef_1531]; exact hw
      refine lv_aload_n hx hb dX12_feed_104 rfl (lv_at hl 3 rfl) ?_
      refine lv_dup hx hb dX12_feed_105 rfl ?_
      refine fg_RX12_148 hC hw 0 rfl rfl dX12_feed_106 ?_
      refine lv_iconst (v := 1) hx hb dX12_feed_109 (by decide) ?_
      refine lv_iadd hx hb dX12_feed_110 ?_
      refine lv_topi (fun x_1532 ex_1532 => ?_)
      obtain rfl : x_1532 = (nI (n + 1)) := ex_1532.trans (nI_1 n)
      refine fs_RX12_148 hC hw 0 rfl rfl rfl (Nat.le_of_ble_eq_true rfl) dX12_feed_111 (fun H locs hw => ?_)
      have hw : kW γ A [(z, .inr (11, [.int 0, .int (nI (n + 1)), .ref z2, .int 0, .int 0, .int 0, .int 0, .long 0, .int 0, .int 0, .ref z10, .ref z11, .ref z12, .ref z13, .ref z14, .ref z15, .ref z16, .ref z17, .ref z18, .ref z19, .int 0, .int 0, .ref z22, .ref z23, .ref z24, .ref z25, .ref z26, .ref z27, .ref z28, .ref z29, .ref z30, .ref z31, .ref z32, .ref z33, .int 0, .long 0, .ref z36, .ref z37, .ref z38, .ref z39, .ref z40, .ref z41, .ref z42, .ref z43, .ref z44, .ref z45, .ref z46, .ref z47, .ref z48, .int 0, .int 10, .int 0, .int 0, .int 0, .int 0, .ref z55, .ref z56, .int 0, .int 0, .ref z59, .ref z60, .ref z61, .int 0, .long 0])), (z2, .inl (γ.2.1 0, 1000, .inl f_1531))] s H locs := hw
      refine lv_iinc (v := 18) (lv' := [(7, .int 18), (10, .int x_1530), (8, .long vc), (0, .ref z), (1, .long va), (3, .long vb), (5, .long vc)]) hx hb dX12_feed_114 hl (k := 2) rfl (by decide) (by decide) rfl (fun ls hl => ?_)
      refine lv_goto (tgt := 8) hx hb dX12_feed_117 (by decide) ?_
      have hst : kst n (kby vc 48) = (n + 1) := by rw [← hk]; exact (by first | exact kst_full hfull | exact kst_a c76 hlt | exact kst_b c83 c90 hlt | exact kst_lo c76 c83 | exact kst_hi c76 c90)
      exact mf_18 z z2 z10 z11 z12 z13 z14 z15 z16 z17 z18 z19 z22 z23 z24 z25 z26 z27 z28 z29 z30 z31 z32 z33 z36 z37 z38 z39 z40 z41 z42 z43 z44 z45 z46 z47 z48 z55 z56 z59 z60 z61 va vb vc (n + 1) f_1531 (by omega) F (by have h9 : kad vc 6 (kst n (kby vc 48)) = F := hF; rw [hst] at h9; exact h9) hC hr hlocks _ _ (kW.sub hw [0, 1] rfl rfl) _ (lv_sub hl [0, 3, 4, 5, 6] rfl)
    · refine lv_iload hx hb dX12_feed_79 (lv_at hl 0 rfl) ?_
      refine lv_bipush (v := 32) hx hb dX12_feed_81 (by decide) ?_
      refine lv_icmp_lt (tgt := 114) hx hb dX12_feed_83 (by decide) (fun c83 => ?_) (fun c83 => ?_)
      · refine lv_iinc (v := 18) (lv' := [(7, .int 18), (10, .int x_1530), (8, .long vc), (0, .ref z), (1, .long va), (3, .long vb), (5, .long vc)]) hx hb dX12_feed_114 hl (k := 2) rfl (by decide) (by decide) rfl (fun ls hl => ?_)
        refine lv_goto (tgt := 8) hx hb dX12_feed_117 (by decide) ?_
        have hst : kst n (kby vc 48) = n := by rw [← hk]; exact (by first | exact kst_full hfull | exact kst_a c76 hlt | exact kst_b c83 c90 hlt | exact kst_lo c76 c83 | exact kst_hi c76 c90)
        exact mf_18 z z2 z10 z11 z12 z13 z14 z15 z16 z17 z18 z19 z22 z23 z24 z25 z26 z27 z28 z29 z30 z31 z32 z33 z36 z37 z38 z39 z40 z41 z42 z43 z44 z45 z46 z47 z48 z55 z56 z59 z60 z61 va vb vc n f (by omega) F (by have h9 : kad vc 6 (kst n (kby vc 48)) = F := hF; rw [hst] at h9; exact h9) hC hr hlocks _ _ (kW.sub hw [0, 1] rfl rfl) _ (lv_sub hl [0, 3, 4, 5, 6] rfl)
      · refine lv_iload hx hb dX12_feed_86 (lv_at hl 0 rfl) ?_
        refine lv_bipush (v := 126) hx hb dX12_feed_88 (by decide) ?_
        refine lv_icmp_gt (tgt := 114) hx hb dX12_feed_90 (by decide) (fun c90 => ?_) (fun c90 => ?_)
        · refine lv_iinc (v := 18) (lv' := [(7, .int 18), (10, .int x_1530), (8, .long vc), (0, .ref z), (1, .long va), (3, .long vb), (5, .long vc)]) hx hb dX12_feed_114 hl (k := 2) rfl (by decide) (by decide) rfl (fun ls hl => ?_)
          refine lv_goto (tgt := 8) hx hb dX12_feed_117 (by decide) ?_
          have hst : kst n (kby vc 48) = n := by rw [← hk]; exact (by first | exact kst_full hfull | exact kst_a c76 hlt | exact kst_b c83 c90 hlt | exact kst_lo c76 c83 | exact kst_hi c76 c90)
          exact mf_18 z z2 z10 z11 z12 z13 z14 z15 z16 z17 z18 z19 z22 z23 z24 z25 z26 z27 z28 z29 z30 z31 z32 z33 z36 z37 z38 z39 z40 z41 z42 z43 z44 z45 z46 z47 z48 z55 z56 z59 z60 z61 va vb vc n f (by omega) F (by have h9 : kad vc 6 (kst n (kby vc 48)) = F := hF; rw [hst] at h9; exact h9) hC hr hlocks _ _ (kW.sub hw [0, 1] rfl rfl) _ (lv_sub hl [0, 3, 4, 5, 6] rfl)
        · refine lv_aload_n hx hb dX12_feed_93 rfl (lv_at hl 3 rfl) ?_
          refine fg_RX12_7 hC hw 0 rfl rfl dX12_feed_94 ?_
          refine lv_aload_n hx hb dX12_feed_97 rfl (lv_at hl 3 rfl) ?_
          refine fg_RX12_148 hC hw 0 rfl rfl dX12_feed_98 ?_
          refine lv_iload hx hb dX12_feed_101 (lv_at hl 0 rfl) ?_
          refine k_iast hC hw 1 rfl (vp_in_nI hlt (by decide)) dX12_feed_103 (fun H locs hw => ?_)
          obtain ⟨f_1533, ef_1533⟩ : ∃ g, g = upd f ((nI n) : Int32).toNatClampNeg x_1530 := ⟨_, rfl⟩
          have hw : kW γ A [(z, .inr (11, [.int 0, .int (nI n), .ref z2, .int 0, .int 0, .int 0, .int 0, .long 0, .int 0, .int 0, .ref z10, .ref z11, .ref z12, .ref z13, .ref z14, .ref z15, .ref z16, .ref z17, .ref z18, .ref z19, .int 0, .int 0, .ref z22, .ref z23, .ref z24, .ref z25, .ref z26, .ref z27, .ref z28, .ref z29, .ref z30, .ref z31, .ref z32, .ref z33, .int 0, .long 0, .ref z36, .ref z37, .ref z38, .ref z39, .ref z40, .ref z41, .ref z42, .ref z43, .ref z44, .ref z45, .ref z46, .ref z47, .ref z48, .int 0, .int 10, .int 0, .int 0, .int 0, .int 0, .ref z55, .ref z56, .int 0, .int 0, .ref z59, .ref z60, .ref z61, .int 0, .long 0])), (z2, .inl (γ.2.1 0, 1000, .inl f_1533))] s H locs := by rw [ef_1533]; exact hw
          refine lv_aload_n hx hb dX12_feed_104 rfl (lv_at hl 3 rfl) ?_
          refine lv_dup hx hb dX12_feed_105 rfl ?_
          refine fg_RX12_148 hC hw 0 rfl rfl dX12_feed_106 ?_
          refine lv_iconst (v := 1) hx hb dX12_feed_109 (by decide) ?_
          refine lv_iadd hx hb dX12_feed_110 ?_
          refine lv_topi (fun x_1534 ex_1534 => ?_)
          obtain rfl : x_1534 = (nI (n + 1)) := ex_1534.trans (nI_1 n)
          refine fs_RX12_148 hC hw 0 rfl rfl rfl (Nat.le_of_ble_eq_true rfl) dX12_feed_111 (fun H locs hw => ?_)
          have hw : kW γ A [(z, .inr (11, [.int 0, .int (nI (n + 1)), .ref z2, .int 0, .int 0, .int 0, .int 0, .long 0, .int 0, .int 0, .ref z10, .ref z11, .ref z12, .ref z13, .ref z14, .ref z15, .ref z16, .ref z17, .ref z18, .ref z19, .int 0, .int 0, .ref z22, .ref z23, .ref z24, .ref z25, .ref z26, .ref z27, .ref z28, .ref z29, .ref z30, .ref z31, .ref z32, .ref z33, .int 0, .long 0, .ref z36, .ref z37, .ref z38, .ref z39, .ref z40, .ref z41, .ref z42, .ref z43, .ref z44, .ref z45, .ref z46, .ref z47, .ref z48, .int 0, .int 10, .int 0, .int 0, .int 0, .int 0, .ref z55, .ref z56, .int 0, .int 0, .ref z59, .ref z60, .ref z61, .int 0, .long 0])), (z2, .inl (γ.2.1 0, 1000, .inl f_1533))] s H locs := hw
          refine lv_iinc (v := 18) (lv' := [(7, .int 18), (10, .int x_1530), (8, .long vc), (0, .ref z), (1, .long va), (3, .long vb), (5, .long vc)]) hx hb dX12_feed_114 hl (k := 2) rfl (by decide) (by decide) rfl (fun ls hl => ?_)
          refine lv_goto (tgt := 8) hx hb dX12_feed_117 (by decide) ?_
          have hst : kst n (kby vc 48) = (n + 1) := by rw [← hk]; exact (by first | exact kst_full hfull | exact kst_a c76 hlt | exact kst_b c83 c90 hlt | exact kst_lo c76 c83 | exact kst_hi c76 c90)
          exact mf_18 z z2 z10 z11 z12 z13 z14 z15 z16 z17 z18 z19 z22 z23 z24 z25 z26 z27 z28 z29 z30 z31 z32 z33 z36 z37 z38 z39 z40 z41 z42 z43 z44 z45 z46 z47 z48 z55 z56 z59 z60 z61 va vb vc (n + 1) f_1533 (by omega) F (by have h9 : kad vc 6 (kst n (kby vc 48)) = F := hF; rw [hst] at h9; exact h9) hC hr hlocks _ _ (kW.sub hw [0, 1] rfl rfl) _ (lv_sub hl [0, 3, 4, 5, 6] rfl)

set_option maxHeartbeats 4000000 in
set_option maxRecDepth 100000 in
theorem mf_16 {γ : kΓ} {l : Launch} {p : Program} {e : Env} {s : State} {m : MethodId} {below : List Frame} {meth : Method} {c : Code} {A : Nat → Prop} (z : Nat) (z2 : Nat) (z10 : Nat) (z11 : Nat) (z12 : Nat) (z13 : Nat) (z14 : Nat) (z15 : Nat) (z16 : Nat) (z17 : Nat) (z18 : Nat) (z19 : Nat) (z22 : Nat) (z23 : Nat) (z24 : Nat) (z25 : Nat) (z26 : Nat) (z27 : Nat) (z28 : Nat) (z29 : Nat) (z30 : Nat) (z31 : Nat) (z32 : Nat) (z33 : Nat) (z36 : Nat) (z37 : Nat) (z38 : Nat) (z39 : Nat) (z40 : Nat) (z41 : Nat) (z42 : Nat) (z43 : Nat) (z44 : Nat) (z45 : Nat) (z46 : Nat) (z47 : Nat) (z48 : Nat) (z55 : Nat) (z56 : Nat) (z59 : Nat) (z60 : Nat) (z61 : Nat) (va : Int64) (vb : Int64) (vc : Int64) (n : Nat) (f : Nat → Int32) (hn : n ≤ 1000) (F : Nat) (hF : kad vc 8 n = F) (hC : kC γ p s m [.ref z, .long va, .long vb, .long vc].toArray c cX12_feed 11 RX12 A) (hr : meth.sig.returnType = (some .int)) (hlocks : meth.locks = false) (H : Heap) (locs : List Loc) (hw : kW γ A [(z, .inr (11, [.int 0, .int (nI n), .ref z2, .int 0, .int 0, .int 0, .int 0, .long 0, .int 0, .int 0, .ref z10, .ref z11, .ref z12, .ref z13, .ref z14, .ref z15, .ref z16, .ref z17, .ref z18, .ref z19, .int 0, .int 0, .ref z22, .ref z23, .ref z24, .ref z25, .ref z26, .ref z27, .ref z28, .ref z29, .ref z30, .ref z31, .ref z32, .ref z33, .int 0, .long 0, .ref z36, .ref z37, .ref z38, .ref z39, .ref z40, .ref z41, .ref z42, .ref z43, .ref z44, .ref z45, .ref z46, .ref z47, .ref z48, .int 0, .int 10, .int 0, .int 0, .int 0, .int 0, .ref z55, .ref z56, .int 0, .int 0, .ref z59, .ref z60, .ref z61, .int 0, .long 0])), (z2, .inl (γ.2.1 0, 1000, .inl f))] s H locs) (ls : Array Slot) (hl : lv_has ls 11 [(7, .int 16), (0, .ref z), (1, .long va), (3, .long vb), (5, .long vc)]) : W p l e ({ frames := 0, cells := 0, slots := 0, locals := 0 } : Room) s m [.ref z, .long va, .long vb, .long vc].toArray below meth c H locs 0 0 (MQ below (kQ γ A (fun r w1 => r = some (.int (nI F)) ∧ w1 = [])) [.ref z, .long va, .long vb, .long vc].toArray s 0 0 A) (F0 m 8 ls []) := by
  have hx := hC.1
  have hb := hC.2.1
  refine lv_iload hx hb dX12_feed_8 (lv_at hl 0 rfl) ?_
  refine lv_bipush (v := 24) hx hb dX12_feed_10 (by decide) ?_
  refine lv_icmp_ge (tgt := 120) hx hb dX12_feed_12 (by decide) (fun h => absurd h (by decide)) (fun _ => ?_)
  refine lv_iload hx hb dX12_feed_15 (lv_at hl 0 rfl) ?_
  refine lv_bipush (v := 8) hx hb dX12_feed_17 (by decide) ?_
  refine lv_icmp_ge (tgt := 26) hx hb dX12_feed_19 (by decide) (fun _ => ?_) (fun h => absurd (by decide) h)
  refine lv_iload hx hb dX12_feed_26 (lv_at hl 0 rfl) ?_
  refine lv_bipush (v := 16) hx hb dX12_feed_28 (by decide) ?_
  refine lv_icmp_ge (tgt := 37) hx hb dX12_feed_30 (by decide) (fun _ => ?_) (fun h => absurd (by decide) h)
  refine lv_lload hx hb dX12_feed_37 (lv_at hl 4 rfl) ?_
  refine lv_lstore (lv' := [(8, .long vc), (7, .int 16), (0, .ref z), (1, .long va), (3, .long vb), (5, .long vc)]) hx hb dX12_feed_39 hl (by decide) rfl (fun ls hl => ?_)
  refine lv_lload hx hb dX12_feed_41 (lv_at hl 0 rfl) ?_
  refine lv_bipush (v := 56) hx hb dX12_feed_43 (by decide) ?_
  refine lv_bipush (v := 8) hx hb dX12_feed_45 (by decide) ?_
  refine lv_iload hx hb dX12_feed_47 (lv_at hl 1 rfl) ?_
  refine lv_bipush (v := 7) hx hb dX12_feed_49 (by decide) ?_
  refine lv_iand hx hb dX12_feed_51 ?_
  refine lv_topi (fun x_1535 ex_1535 => ?_)
  obtain rfl : x_1535 = 0 := ex_1535.trans (by decide)
  refine lv_imul hx hb dX12_feed_52 ?_
  refine lv_topi (fun x_1536 ex_1536 => ?_)
  obtain rfl : x_1536 = 0 := ex_1536.trans (by decide)
  refine lv_isub hx hb dX12_feed_53 ?_
  refine lv_topi (fun x_1537 ex_1537 => ?_)
  obtain rfl : x_1537 = 56 := ex_1537.trans (by decide)
  refine lv_lushr hx hb dX12_feed_54 rfl ?_
  refine lv_topl (fun x_1538 ex_1538 => ?_)
  refine k_ldc2 hC gw_1393 dX12_feed_55 ?_
  refine lv_land hx hb dX12_feed_58 ?_
  refine lv_topl (fun x_1539 ex_1539 => ?_)
  refine lv_l2i hx hb dX12_feed_59 rfl ?_
  refine lv_topi (fun x_1540 ex_1540 => ?_)
  refine lv_istore (lv' := [(10, .int x_1540), (8, .long vc), (7, .int 16), (0, .ref z), (1, .long va), (3, .long vb), (5, .long vc)]) hx hb dX12_feed_60 hl (by decide) rfl (fun ls hl => ?_)
  have hk : x_1540 = kby vc 56 := by rw [ex_1540, ex_1539, k_land, ex_1538]; rfl
  refine lv_aload_n hx hb dX12_feed_62 rfl (lv_at hl 3 rfl) ?_
  refine fg_RX12_148 hC hw 0 rfl rfl dX12_feed_63 ?_
  refine lv_sipush (v := 1000) hx hb dX12_feed_66 (by decide) ?_
  refine lv_icmp_ge (tgt := 114) hx hb dX12_feed_69 (by decide) (fun c69 => ?_) (fun c69 => ?_)
  · have hfull : ¬ n < 1000 := fun h9 => absurd c69 (nI_ge h9 (by decide))
    refine lv_iinc (v := 17) (lv' := [(7, .int 17), (10, .int x_1540), (8, .long vc), (0, .ref z), (1, .long va), (3, .long vb), (5, .long vc)]) hx hb dX12_feed_114 hl (k := 2) rfl (by decide) (by decide) rfl (fun ls hl => ?_)
    refine lv_goto (tgt := 8) hx hb dX12_feed_117 (by decide) ?_
    have hst : kst n (kby vc 56) = n := by rw [← hk]; exact (by first | exact kst_full hfull | exact kst_a c76 hlt | exact kst_b c83 c90 hlt | exact kst_lo c76 c83 | exact kst_hi c76 c90)
    exact mf_17 z z2 z10 z11 z12 z13 z14 z15 z16 z17 z18 z19 z22 z23 z24 z25 z26 z27 z28 z29 z30 z31 z32 z33 z36 z37 z38 z39 z40 z41 z42 z43 z44 z45 z46 z47 z48 z55 z56 z59 z60 z61 va vb vc n f (by omega) F (by have h9 : kad vc 7 (kst n (kby vc 56)) = F := hF; rw [hst] at h9; exact h9) hC hr hlocks _ _ (kW.sub hw [0, 1] rfl rfl) _ (lv_sub hl [0, 3, 4, 5, 6] rfl)
  · have hlt : n < 1000 := by rcases Nat.lt_or_ge n 1000 with h9 | h9; exact h9; exact absurd (nI_le h9 (by omega)) c69
    refine lv_iload hx hb dX12_feed_72 (lv_at hl 0 rfl) ?_
    refine lv_bipush (v := 10) hx hb dX12_feed_74 (by decide) ?_
    refine lv_icmp_eq (tgt := 93) hx hb dX12_feed_76 (by decide) (fun c76 => ?_) (fun c76 => ?_)
    · refine lv_aload_n hx hb dX12_feed_93 rfl (lv_at hl 3 rfl) ?_
      refine fg_RX12_7 hC hw 0 rfl rfl dX12_feed_94 ?_
      refine lv_aload_n hx hb dX12_feed_97 rfl (lv_at hl 3 rfl) ?_
      refine fg_RX12_148 hC hw 0 rfl rfl dX12_feed_98 ?_
      refine lv_iload hx hb dX12_feed_101 (lv_at hl 0 rfl) ?_
      refine k_iast hC hw 1 rfl (vp_in_nI hlt (by decide)) dX12_feed_103 (fun H locs hw => ?_)
      obtain ⟨f_1541, ef_1541⟩ : ∃ g, g = upd f ((nI n) : Int32).toNatClampNeg x_1540 := ⟨_, rfl⟩
      have hw : kW γ A [(z, .inr (11, [.int 0, .int (nI n), .ref z2, .int 0, .int 0, .int 0, .int 0, .long 0, .int 0, .int 0, .ref z10, .ref z11, .ref z12, .ref z13, .ref z14, .ref z15, .ref z16, .ref z17, .ref z18, .ref z19, .int 0, .int 0, .ref z22, .ref z23, .ref z24, .ref z25, .ref z26, .ref z27, .ref z28, .ref z29, .ref z30, .ref z31, .ref z32, .ref z33, .int 0, .long 0, .ref z36, .ref z37, .ref z38, .ref z39, .ref z40, .ref z41, .ref z42, .ref z43, .ref z44, .ref z45, .ref z46, .ref z47, .ref z48, .int 0, .int 10, .int 0, .int 0, .int 0, .int 0, .ref z55, .ref z56, .int 0, .int 0, .ref z59, .ref z60, .ref z61, .int 0, .long 0])), (z2, .inl (γ.2.1 0, 1000, .inl f_1541))] s H locs := by rw [ef_1541]; exact hw
      refine lv_aload_n hx hb dX12_feed_104 rfl (lv_at hl 3 rfl) ?_
      refine lv_dup hx hb dX12_feed_105 rfl ?_
      refine fg_RX12_148 hC hw 0 rfl rfl dX12_feed_106 ?_
      refine lv_iconst (v := 1) hx hb dX12_feed_109 (by decide) ?_
      refine lv_iadd hx hb dX12_feed_110 ?_
      refine lv_topi (fun x_1542 ex_1542 => ?_)
      obtain rfl : x_1542 = (nI (n + 1)) := ex_1542.trans (nI_1 n)
      refine fs_RX12_148 hC hw 0 rfl rfl rfl (Nat.le_of_ble_eq_true rfl) dX12_feed_111 (fun H locs hw => ?_)
      have hw : kW γ A [(z, .inr (11, [.int 0, .int (nI (n + 1)), .ref z2, .int 0, .int 0, .int 0, .int 0, .long 0, .int 0, .int 0, .ref z10, .ref z11, .ref z12, .ref z13, .ref z14, .ref z15, .ref z16, .ref z17, .ref z18, .ref z19, .int 0, .int 0, .ref z22, .ref z23, .ref z24, .ref z25, .ref z26, .ref z27, .ref z28, .ref z29, .ref z30, .ref z31, .ref z32, .ref z33, .int 0, .long 0, .ref z36, .ref z37, .ref z38, .ref z39, .ref z40, .ref z41, .ref z42, .ref z43, .ref z44, .ref z45, .ref z46, .ref z47, .ref z48, .int 0, .int 10, .int 0, .int 0, .int 0, .int 0, .ref z55, .ref z56, .int 0, .int 0, .ref z59, .ref z60, .ref z61, .int 0, .long 0])), (z2, .inl (γ.2.1 0, 1000, .inl f_1541))] s H locs := hw
      refine lv_iinc (v := 17) (lv' := [(7, .int 17), (10, .int x_1540), (8, .long vc), (0, .ref z), (1, .long va), (3, .long vb), (5, .long vc)]) hx hb dX12_feed_114 hl (k := 2) rfl (by decide) (by decide) rfl (fun ls hl => ?_)
      refine lv_goto (tgt := 8) hx hb dX12_feed_117 (by decide) ?_
      have hst : kst n (kby vc 56) = (n + 1) := by rw [← hk]; exact (by first | exact kst_full hfull | exact kst_a c76 hlt | exact kst_b c83 c90 hlt | exact kst_lo c76 c83 | exact kst_hi c76 c90)
      exact mf_17 z z2 z10 z11 z12 z13 z14 z15 z16 z17 z18 z19 z22 z23 z24 z25 z26 z27 z28 z29 z30 z31 z32 z33 z36 z37 z38 z39 z40 z41 z42 z43 z44 z45 z46 z47 z48 z55 z56 z59 z60 z61 va vb vc (n + 1) f_1541 (by omega) F (by have h9 : kad vc 7 (kst n (kby vc 56)) = F := hF; rw [hst] at h9; exact h9) hC hr hlocks _ _ (kW.sub hw [0, 1] rfl rfl) _ (lv_sub hl [0, 3, 4, 5, 6] rfl)
    · refine lv_iload hx hb dX12_feed_79 (lv_at hl 0 rfl) ?_
      refine lv_bipush (v := 32) hx hb dX12_feed_81 (by decide) ?_
      refine lv_icmp_lt (tgt := 114) hx hb dX12_feed_83 (by decide) (fun c83 => ?_) (fun c83 => ?_)
      · refine lv_iinc (v := 17) (lv' := [(7, .int 17), (10, .int x_1540), (8, .long vc), (0, .ref z), (1, .long va), (3, .long vb), (5, .long vc)]) hx hb dX12_feed_114 hl (k := 2) rfl (by decide) (by decide) rfl (fun ls hl => ?_)
        refine lv_goto (tgt := 8) hx hb dX12_feed_117 (by decide) ?_
        have hst : kst n (kby vc 56) = n := by rw [← hk]; exact (by first | exact kst_full hfull | exact kst_a c76 hlt | exact kst_b c83 c90 hlt | exact kst_lo c76 c83 | exact kst_hi c76 c90)
        exact mf_17 z z2 z10 z11 z12 z13 z14 z15 z16 z17 z18 z19 z22 z23 z24 z25 z26 z27 z28 z29 z30 z31 z32 z33 z36 z37 z38 z39 z40 z41 z42 z43 z44 z45 z46 z47 z48 z55 z56 z59 z60 z61 va vb vc n f (by omega) F (by have h9 : kad vc 7 (kst n (kby vc 56)) = F := hF; rw [hst] at h9; exact h9) hC hr hlocks _ _ (kW.sub hw [0, 1] rfl rfl) _ (lv_sub hl [0, 3, 4, 5, 6] rfl)
      · refine lv_iload hx hb dX12_feed_86 (lv_at hl 0 rfl) ?_
        refine lv_bipush (v := 126) hx hb dX12_feed_88 (by decide) ?_
        refine lv_icmp_gt (tgt := 114) hx hb dX12_feed_90 (by decide) (fun c90 => ?_) (fun c90 => ?_)
        · refine lv_iinc (v := 17) (lv' := [(7, .int 17), (10, .int x_1540), (8, .long vc), (0, .ref z), (1, .long va), (3, .long vb), (5, .long vc)]) hx hb dX12_feed_114 hl (k := 2) rfl (by decide) (by decide) rfl (fun ls hl => ?_)
          refine lv_goto (tgt := 8) hx hb dX12_feed_117 (by decide) ?_
          have hst : kst n (kby vc 56) = n := by rw [← hk]; exact (by first | exact kst_full hfull | exact kst_a c76 hlt | exact kst_b c83 c90 hlt | exact kst_lo c76 c83 | exact kst_hi c76 c90)
          exact mf_17 z z2 z10 z11 z12 z13 z14 z15 z16 z17 z18 z19 z22 z23 z24 z25 z26 z27 z28 z29 z30 z31 z32 z33 z36 z37 z38 z39 z40 z41 z42 z43 z44 z45 z46 z47 z48 z55 z56 z59 z60 z61 va vb vc n f (by omega) F (by have h9 : kad vc 7 (kst n (kby vc 56)) = F := hF; rw [hst] at h9; exact h9) hC hr hlocks _ _ (kW.sub hw [0, 1] rfl rfl) _ (lv_sub hl [0, 3, 4, 5, 6] rfl)
        · refine lv_aload_n hx hb dX12_feed_93 rfl (lv_at hl 3 rfl) ?_
          refine fg_RX12_7 hC hw 0 rfl rfl dX12_feed_94 ?_
          refine lv_aload_n hx hb dX12_feed_97 rfl (lv_at hl 3 rfl) ?_
          refine fg_RX12_148 hC hw 0 rfl rfl dX12_feed_98 ?_
          refine lv_iload hx hb dX12_feed_101 (lv_at hl 0 rfl) ?_
          refine k_iast hC hw 1 rfl (vp_in_nI hlt (by decide)) dX12_feed_103 (fun H locs hw => ?_)
          obtain ⟨f_1543, ef_1543⟩ : ∃ g, g = upd f ((nI n) : Int32).toNatClampNeg x_1540 := ⟨_, rfl⟩
          have hw : kW γ A [(z, .inr (11, [.int 0, .int (nI n), .ref z2, .int 0, .int 0, .int 0, .int 0, .long 0, .int 0, .int 0, .ref z10, .ref z11, .ref z12, .ref z13, .ref z14, .ref z15, .ref z16, .ref z17, .ref z18, .ref z19, .int 0, .int 0, .ref z22, .ref z23, .ref z24, .ref z25, .ref z26, .ref z27, .ref z28, .ref z29, .ref z30, .ref z31, .ref z32, .ref z33, .int 0, .long 0, .ref z36, .ref z37, .ref z38, .ref z39, .ref z40, .ref z41, .ref z42, .ref z43, .ref z44, .ref z45, .ref z46, .ref z47, .ref z48, .int 0, .int 10, .int 0, .int 0, .int 0, .int 0, .ref z55, .ref z56, .int 0, .int 0, .ref z59, .ref z60, .ref z61, .int 0, .long 0])), (z2, .inl (γ.2.1 0, 1000, .inl f_1543))] s H locs := by rw [ef_1543]; exact hw
          refine lv_aload_n hx hb dX12_feed_104 rfl (lv_at hl 3 rfl) ?_
          refine lv_dup hx hb dX12_feed_105 rfl ?_
          refine fg_RX12_148 hC hw 0 rfl rfl dX12_feed_106 ?_
          refine lv_iconst (v := 1) hx hb dX12_feed_109 (by decide) ?_
          refine lv_iadd hx hb dX12_feed_110 ?_
          refine lv_topi (fun x_1544 ex_1544 => ?_)
          obtain rfl : x_1544 = (nI (n + 1)) := ex_1544.trans (nI_1 n)
          refine fs_RX12_148 hC hw 0 rfl rfl rfl (Nat.le_of_ble_eq_true rfl) dX12_feed_111 (fun H locs hw => ?_)
          have hw : kW γ A [(z, .inr (11, [.int 0, .int (nI (n + 1)), .ref z2, .int 0, .int 0, .int 0, .int 0, .long 0, .int 0, .int 0, .ref z10, .ref z11, .ref z12, .ref z13, .ref z14, .ref z15, .ref z16, .ref z17, .ref z18, .ref z19, .int 0, .int 0, .ref z22, .ref z23, .ref z24, .ref z25, .ref z26, .ref z27, .ref z28, .ref z29, .ref z30, .ref z31, .ref z32, .ref z33, .int 0, .long 0, .ref z36, .ref z37, .ref z38, .ref z39, .ref z40, .ref z41, .ref z42, .ref z43, .ref z44, .ref z45, .ref z46, .ref z47, .ref z48, .int 0, .int 10, .int 0, .int 0, .int 0, .int 0, .ref z55, .ref z56, .int 0, .int 0, .ref z59, .ref z60, .ref z61, .int 0, .long 0])), (z2, .inl (γ.2.1 0, 1000, .inl f_1543))] s H locs := hw
          refine lv_iinc (v := 17) (lv' := [(7, .int 17), (10, .int x_1540), (8, .long vc), (0, .ref z), (1, .long va), (3, .long vb), (5, .long vc)]) hx hb dX12_feed_114 hl (k := 2) rfl (by decide) (by decide) rfl (fun ls hl => ?_)
          refine lv_goto (tgt := 8) hx hb dX12_feed_117 (by decide) ?_
          have hst : kst n (kby vc 56) = (n + 1) := by rw [← hk]; exact (by first | exact kst_full hfull | exact kst_a c76 hlt | exact kst_b c83 c90 hlt | exact kst_lo c76 c83 | exact kst_hi c76 c90)
          exact mf_17 z z2 z10 z11 z12 z13 z14 z15 z16 z17 z18 z19 z22 z23 z24 z25 z26 z27 z28 z29 z30 z31 z32 z33 z36 z37 z38 z39 z40 z41 z42 z43 z44 z45 z46 z47 z48 z55 z56 z59 z60 z61 va vb vc (n + 1) f_1543 (by omega) F (by have h9 : kad vc 7 (kst n (kby vc 56)) = F := hF; rw [hst] at h9; exact h9) hC hr hlocks _ _ (kW.sub hw [0, 1] rfl rfl) _ (lv_sub hl [0, 3, 4, 5, 6] rfl)

set_option maxHeartbeats 4000000 in
set_option maxRecDepth 100000 in
theorem mf_15 {γ : kΓ} {l : Launch} {p : Program} {e : Env} {s : State} {m : MethodId} {below : List Frame} {meth : Method} {c : Code} {A : Nat → Prop} (z : Nat) (z2 : Nat) (z10 : Nat) (z11 : Nat) (z12 : Nat) (z13 : Nat) (z14 : Nat) (z15 : Nat) (z16 : Nat) (z17 : Nat) (z18 : Nat) (z19 : Nat) (z22 : Nat) (z23 : Nat) (z24 : Nat) (z25 : Nat) (z26 : Nat) (z27 : Nat) (z28 : Nat) (z29 : Nat) (z30 : Nat) (z31 : Nat) (z32 : Nat) (z33 : Nat) (z36 : Nat) (z37 : Nat) (z38 : Nat) (z39 : Nat) (z40 : Nat) (z41 : Nat) (z42 : Nat) (z43 : Nat) (z44 : Nat) (z45 : Nat) (z46 : Nat) (z47 : Nat) (z48 : Nat) (z55 : Nat) (z56 : Nat) (z59 : Nat) (z60 : Nat) (z61 : Nat) (va : Int64) (vb : Int64) (vc : Int64) (n : Nat) (f : Nat → Int32) (hn : n ≤ 1000) (F : Nat) (hF : kad vc 8 (kad vb 1 n) = F) (hC : kC γ p s m [.ref z, .long va, .long vb, .long vc].toArray c cX12_feed 11 RX12 A) (hr : meth.sig.returnType = (some .int)) (hlocks : meth.locks = false) (H : Heap) (locs : List Loc) (hw : kW γ A [(z, .inr (11, [.int 0, .int (nI n), .ref z2, .int 0, .int 0, .int 0, .int 0, .long 0, .int 0, .int 0, .ref z10, .ref z11, .ref z12, .ref z13, .ref z14, .ref z15, .ref z16, .ref z17, .ref z18, .ref z19, .int 0, .int 0, .ref z22, .ref z23, .ref z24, .ref z25, .ref z26, .ref z27, .ref z28, .ref z29, .ref z30, .ref z31, .ref z32, .ref z33, .int 0, .long 0, .ref z36, .ref z37, .ref z38, .ref z39, .ref z40, .ref z41, .ref z42, .ref z43, .ref z44, .ref z45, .ref z46, .ref z47, .ref z48, .int 0, .int 10, .int 0, .int 0, .int 0, .int 0, .ref z55, .ref z56, .int 0, .int 0, .ref z59, .ref z60, .ref z61, .int 0, .long 0])), (z2, .inl (γ.2.1 0, 1000, .inl f))] s H locs) (ls : Array Slot) (hl : lv_has ls 11 [(7, .int 15), (0, .ref z), (1, .long va), (3, .long vb), (5, .long vc)]) : W p l e ({ frames := 0, cells := 0, slots := 0, locals := 0 } : Room) s m [.ref z, .long va, .long vb, .long vc].toArray below meth c H locs 0 0 (MQ below (kQ γ A (fun r w1 => r = some (.int (nI F)) ∧ w1 = [])) [.ref z, .long va, .long vb, .long vc].toArray s 0 0 A) (F0 m 8 ls []) := by
  have hx := hC.1
  have hb := hC.2.1
  refine lv_iload hx hb dX12_feed_8 (lv_at hl 0 rfl) ?_
  refine lv_bipush (v := 24) hx hb dX12_feed_10 (by decide) ?_
  refine lv_icmp_ge (tgt := 120) hx hb dX12_feed_12 (by decide) (fun h => absurd h (by decide)) (fun _ => ?_)
  refine lv_iload hx hb dX12_feed_15 (lv_at hl 0 rfl) ?_
  refine lv_bipush (v := 8) hx hb dX12_feed_17 (by decide) ?_
  refine lv_icmp_ge (tgt := 26) hx hb dX12_feed_19 (by decide) (fun _ => ?_) (fun h => absurd (by decide) h)
  refine lv_iload hx hb dX12_feed_26 (lv_at hl 0 rfl) ?_
  refine lv_bipush (v := 16) hx hb dX12_feed_28 (by decide) ?_
  refine lv_icmp_ge (tgt := 37) hx hb dX12_feed_30 (by decide) (fun h => absurd h (by decide)) (fun _ => ?_)
  refine lv_lload_n hx hb dX12_feed_33 rfl (lv_at hl 3 rfl) ?_
  refine lv_goto (tgt := 39) hx hb dX12_feed_34 (by decide) ?_
  refine lv_lstore (lv' := [(8, .long vb), (7, .int 15), (0, .ref z), (1, .long va), (3, .long vb), (5, .long vc)]) hx hb dX12_feed_39 hl (by decide) rfl (fun ls hl => ?_)
  refine lv_lload hx hb dX12_feed_41 (lv_at hl 0 rfl) ?_
  refine lv_bipush (v := 56) hx hb dX12_feed_43 (by decide) ?_
  refine lv_bipush (v := 8) hx hb dX12_feed_45 (by decide) ?_
  refine lv_iload hx hb dX12_feed_47 (lv_at hl 1 rfl) ?_
  refine lv_bipush (v := 7) hx hb dX12_feed_49 (by decide) ?_
  refine lv_iand hx hb dX12_feed_51 ?_
  refine lv_topi (fun x_1545 ex_1545 => ?_)
  obtain rfl : x_1545 = 7 := ex_1545.trans (by decide)
  refine lv_imul hx hb dX12_feed_52 ?_
  refine lv_topi (fun x_1546 ex_1546 => ?_)
  obtain rfl : x_1546 = 56 := ex_1546.trans (by decide)
  refine lv_isub hx hb dX12_feed_53 ?_
  refine lv_topi (fun x_1547 ex_1547 => ?_)
  obtain rfl : x_1547 = 0 := ex_1547.trans (by decide)
  refine lv_lushr hx hb dX12_feed_54 rfl ?_
  refine lv_topl (fun x_1548 ex_1548 => ?_)
  refine k_ldc2 hC gw_1393 dX12_feed_55 ?_
  refine lv_land hx hb dX12_feed_58 ?_
  refine lv_topl (fun x_1549 ex_1549 => ?_)
  refine lv_l2i hx hb dX12_feed_59 rfl ?_
  refine lv_topi (fun x_1550 ex_1550 => ?_)
  refine lv_istore (lv' := [(10, .int x_1550), (8, .long vb), (7, .int 15), (0, .ref z), (1, .long va), (3, .long vb), (5, .long vc)]) hx hb dX12_feed_60 hl (by decide) rfl (fun ls hl => ?_)
  have hk : x_1550 = kby vb 0 := by rw [ex_1550, ex_1549, k_land, ex_1548]; rfl
  refine lv_aload_n hx hb dX12_feed_62 rfl (lv_at hl 3 rfl) ?_
  refine fg_RX12_148 hC hw 0 rfl rfl dX12_feed_63 ?_
  refine lv_sipush (v := 1000) hx hb dX12_feed_66 (by decide) ?_
  refine lv_icmp_ge (tgt := 114) hx hb dX12_feed_69 (by decide) (fun c69 => ?_) (fun c69 => ?_)
  · have hfull : ¬ n < 1000 := fun h9 => absurd c69 (nI_ge h9 (by decide))
    refine lv_iinc (v := 16) (lv' := [(7, .int 16), (10, .int x_1550), (8, .long vb), (0, .ref z), (1, .long va), (3, .long vb), (5, .long vc)]) hx hb dX12_feed_114 hl (k := 2) rfl (by decide) (by decide) rfl (fun ls hl => ?_)
    refine lv_goto (tgt := 8) hx hb dX12_feed_117 (by decide) ?_
    have hst : kst n (kby vb 0) = n := by rw [← hk]; exact (by first | exact kst_full hfull | exact kst_a c76 hlt | exact kst_b c83 c90 hlt | exact kst_lo c76 c83 | exact kst_hi c76 c90)
    exact mf_16 z z2 z10 z11 z12 z13 z14 z15 z16 z17 z18 z19 z22 z23 z24 z25 z26 z27 z28 z29 z30 z31 z32 z33 z36 z37 z38 z39 z40 z41 z42 z43 z44 z45 z46 z47 z48 z55 z56 z59 z60 z61 va vb vc n f (by omega) F (by have h9 : kad vc 8 (kst n (kby vb 0)) = F := hF; rw [hst] at h9; exact h9) hC hr hlocks _ _ (kW.sub hw [0, 1] rfl rfl) _ (lv_sub hl [0, 3, 4, 5, 6] rfl)
  · have hlt : n < 1000 := by rcases Nat.lt_or_ge n 1000 with h9 | h9; exact h9; exact absurd (nI_le h9 (by omega)) c69
    refine lv_iload hx hb dX12_feed_72 (lv_at hl 0 rfl) ?_
    refine lv_bipush (v := 10) hx hb dX12_feed_74 (by decide) ?_
    refine lv_icmp_eq (tgt := 93) hx hb dX12_feed_76 (by decide) (fun c76 => ?_) (fun c76 => ?_)
    · refine lv_aload_n hx hb dX12_feed_93 rfl (lv_at hl 3 rfl) ?_
      refine fg_RX12_7 hC hw 0 rfl rfl dX12_feed_94 ?_
      refine lv_aload_n hx hb dX12_feed_97 rfl (lv_at hl 3 rfl) ?_
      refine fg_RX12_148 hC hw 0 rfl rfl dX12_feed_98 ?_
      refine lv_iload hx hb dX12_feed_101 (lv_at hl 0 rfl) ?_
      refine k_iast hC hw 1 rfl (vp_in_nI hlt (by decide)) dX12_feed_103 (fun H locs hw => ?_)
      obtain ⟨f_1551, ef_1551⟩ : ∃ g, g = upd f ((nI n) : Int32).toNatClampNeg x_1550 := ⟨_, rfl⟩
      have hw : kW γ A [(z, .inr (11, [.int 0, .int (nI n), .ref z2, .int 0, .int 0, .int 0, .int 0, .long 0, .int 0, .int 0, .ref z10, .ref z11, .ref z12, .ref z13, .ref z14, .ref z15, .ref z16, .ref z17, .ref z18, .ref z19, .int 0, .int 0, .ref z22, .ref z23, .ref z24, .ref z25, .ref z26, .ref z27, .ref z28, .ref z29, .ref z30, .ref z31, .ref z32, .ref z33, .int 0, .long 0, .ref z36, .ref z37, .ref z38, .ref z39, .ref z40, .ref z41, .ref z42, .ref z43, .ref z44, .ref z45, .ref z46, .ref z47, .ref z48, .int 0, .int 10, .int 0, .int 0, .int 0, .int 0, .ref z55, .ref z56, .int 0, .int 0, .ref z59, .ref z60, .ref z61, .int 0, .long 0])), (z2, .inl (γ.2.1 0, 1000, .inl f_1551))] s H locs := by rw [ef_1551]; exact hw
      refine lv_aload_n hx hb dX12_feed_104 rfl (lv_at hl 3 rfl) ?_
      refine lv_dup hx hb dX12_feed_105 rfl ?_
      refine fg_RX12_148 hC hw 0 rfl rfl dX12_feed_106 ?_
      refine lv_iconst (v := 1) hx hb dX12_feed_109 (by decide) ?_
      refine lv_iadd hx hb dX12_feed_110 ?_
      refine lv_topi (fun x_1552 ex_1552 => ?_)
      obtain rfl : x_1552 = (nI (n + 1)) := ex_1552.trans (nI_1 n)
      refine fs_RX12_148 hC hw 0 rfl rfl rfl (Nat.le_of_ble_eq_true rfl) dX12_feed_111 (fun H locs hw => ?_)
      have hw : kW γ A [(z, .inr (11, [.int 0, .int (nI (n + 1)), .ref z2, .int 0, .int 0, .int 0, .int 0, .long 0, .int 0, .int 0, .ref z10, .ref z11, .ref z12, .ref z13, .ref z14, .ref z15, .ref z16, .ref z17, .ref z18, .ref z19, .int 0, .int 0, .ref z22, .ref z23, .ref z24, .ref z25, .ref z26, .ref z27, .ref z28, .ref z29, .ref z30, .ref z31, .ref z32, .ref z33, .int 0, .long 0, .ref z36, .ref z37, .ref z38, .ref z39, .ref z40, .ref z41, .ref z42, .ref z43, .ref z44, .ref z45, .ref z46, .ref z47, .ref z48, .int 0, .int 10, .int 0, .int 0, .int 0, .int 0, .ref z55, .ref z56, .int 0, .int 0, .ref z59, .ref z60, .ref z61, .int 0, .long 0])), (z2, .inl (γ.2.1 0, 1000, .inl f_1551))] s H locs := hw
      refine lv_iinc (v := 16) (lv' := [(7, .int 16), (10, .int x_1550), (8, .long vb), (0, .ref z), (1, .long va), (3, .long vb), (5, .long vc)]) hx hb dX12_feed_114 hl (k := 2) rfl (by decide) (by decide) rfl (fun ls hl => ?_)
      refine lv_goto (tgt := 8) hx hb dX12_feed_117 (by decide) ?_
      have hst : kst n (kby vb 0) = (n + 1) := by rw [← hk]; exact (by first | exact kst_full hfull | exact kst_a c76 hlt | exact kst_b c83 c90 hlt | exact kst_lo c76 c83 | exact kst_hi c76 c90)
      exact mf_16 z z2 z10 z11 z12 z13 z14 z15 z16 z17 z18 z19 z22 z23 z24 z25 z26 z27 z28 z29 z30 z31 z32 z33 z36 z37 z38 z39 z40 z41 z42 z43 z44 z45 z46 z47 z48 z55 z56 z59 z60 z61 va vb vc (n + 1) f_1551 (by omega) F (by have h9 : kad vc 8 (kst n (kby vb 0)) = F := hF; rw [hst] at h9; exact h9) hC hr hlocks _ _ (kW.sub hw [0, 1] rfl rfl) _ (lv_sub hl [0, 3, 4, 5, 6] rfl)
    · refine lv_iload hx hb dX12_feed_79 (lv_at hl 0 rfl) ?_
      refine lv_bipush (v := 32) hx hb dX12_feed_81 (by decide) ?_
      refine lv_icmp_lt (tgt := 114) hx hb dX12_feed_83 (by decide) (fun c83 => ?_) (fun c83 => ?_)
      · refine lv_iinc (v := 16) (lv' := [(7, .int 16), (10, .int x_1550), (8, .long vb), (0, .ref z), (1, .long va), (3, .long vb), (5, .long vc)]) hx hb dX12_feed_114 hl (k := 2) rfl (by decide) (by decide) rfl (fun ls hl => ?_)
        refine lv_goto (tgt := 8) hx hb dX12_feed_117 (by decide) ?_
        have hst : kst n (kby vb 0) = n := by rw [← hk]; exact (by first | exact kst_full hfull | exact kst_a c76 hlt | exact kst_b c83 c90 hlt | exact kst_lo c76 c83 | exact kst_hi c76 c90)
        exact mf_16 z z2 z10 z11 z12 z13 z14 z15 z16 z17 z18 z19 z22 z23 z24 z25 z26 z27 z28 z29 z30 z31 z32 z33 z36 z37 z38 z39 z40 z41 z42 z43 z44 z45 z46 z47 z48 z55 z56 z59 z60 z61 va vb vc n f (by omega) F (by have h9 : kad vc 8 (kst n (kby vb 0)) = F := hF; rw [hst] at h9; exact h9) hC hr hlocks _ _ (kW.sub hw [0, 1] rfl rfl) _ (lv_sub hl [0, 3, 4, 5, 6] rfl)
      · refine lv_iload hx hb dX12_feed_86 (lv_at hl 0 rfl) ?_
        refine lv_bipush (v := 126) hx hb dX12_feed_88 (by decide) ?_
        refine lv_icmp_gt (tgt := 114) hx hb dX12_feed_90 (by decide) (fun c90 => ?_) (fun c90 => ?_)
        · refine lv_iinc (v := 16) (lv' := [(7, .int 16), (10, .int x_1550), (8, .long vb), (0, .ref z), (1, .long va), (3, .long vb), (5, .long vc)]) hx hb dX12_feed_114 hl (k := 2) rfl (by decide) (by decide) rfl (fun ls hl => ?_)
          refine lv_goto (tgt := 8) hx hb dX12_feed_117 (by decide) ?_
          have hst : kst n (kby vb 0) = n := by rw [← hk]; exact (by first | exact kst_full hfull | exact kst_a c76 hlt | exact kst_b c83 c90 hlt | exact kst_lo c76 c83 | exact kst_hi c76 c90)
          exact mf_16 z z2 z10 z11 z12 z13 z14 z15 z16 z17 z18 z19 z22 z23 z24 z25 z26 z27 z28 z29 z30 z31 z32 z33 z36 z37 z38 z39 z40 z41 z42 z43 z44 z45 z46 z47 z48 z55 z56 z59 z60 z61 va vb vc n f (by omega) F (by have h9 : kad vc 8 (kst n (kby vb 0)) = F := hF; rw [hst] at h9; exact h9) hC hr hlocks _ _ (kW.sub hw [0, 1] rfl rfl) _ (lv_sub hl [0, 3, 4, 5, 6] rfl)
        · refine lv_aload_n hx hb dX12_feed_93 rfl (lv_at hl 3 rfl) ?_
          refine fg_RX12_7 hC hw 0 rfl rfl dX12_feed_94 ?_
          refine lv_aload_n hx hb dX12_feed_97 rfl (lv_at hl 3 rfl) ?_
          refine fg_RX12_148 hC hw 0 rfl rfl dX12_feed_98 ?_
          refine lv_iload hx hb dX12_feed_101 (lv_at hl 0 rfl) ?_
          refine k_iast hC hw 1 rfl (vp_in_nI hlt (by decide)) dX12_feed_103 (fun H locs hw => ?_)
          obtain ⟨f_1553, ef_1553⟩ : ∃ g, g = upd f ((nI n) : Int32).toNatClampNeg x_1550 := ⟨_, rfl⟩
          have hw : kW γ A [(z, .inr (11, [.int 0, .int (nI n), .ref z2, .int 0, .int 0, .int 0, .int 0, .long 0, .int 0, .int 0, .ref z10, .ref z11, .ref z12, .ref z13, .ref z14, .ref z15, .ref z16, .ref z17, .ref z18, .ref z19, .int 0, .int 0, .ref z22, .ref z23, .ref z24, .ref z25, .ref z26, .ref z27, .ref z28, .ref z29, .ref z30, .ref z31, .ref z32, .ref z33, .int 0, .long 0, .ref z36, .ref z37, .ref z38, .ref z39, .ref z40, .ref z41, .ref z42, .ref z43, .ref z44, .ref z45, .ref z46, .ref z47, .ref z48, .int 0, .int 10, .int 0, .int 0, .int 0, .int 0, .ref z55, .ref z56, .int 0, .int 0, .ref z59, .ref z60, .ref z61, .int 0, .long 0])), (z2, .inl (γ.2.1 0, 1000, .inl f_1553))] s H locs := by rw [ef_1553]; exact hw
          refine lv_aload_n hx hb dX12_feed_104 rfl (lv_at hl 3 rfl) ?_
          refine lv_dup hx hb dX12_feed_105 rfl ?_
          refine fg_RX12_148 hC hw 0 rfl rfl dX12_feed_106 ?_
          refine lv_iconst (v := 1) hx hb dX12_feed_109 (by decide) ?_
          refine lv_iadd hx hb dX12_feed_110 ?_
          refine lv_topi (fun x_1554 ex_1554 => ?_)
          obtain rfl : x_1554 = (nI (n + 1)) := ex_1554.trans (nI_1 n)
          refine fs_RX12_148 hC hw 0 rfl rfl rfl (Nat.le_of_ble_eq_true rfl) dX12_feed_111 (fun H locs hw => ?_)
          have hw : kW γ A [(z, .inr (11, [.int 0, .int (nI (n + 1)), .ref z2, .int 0, .int 0, .int 0, .int 0, .long 0, .int 0, .int 0, .ref z10, .ref z11, .ref z12, .ref z13, .ref z14, .ref z15, .ref z16, .ref z17, .ref z18, .ref z19, .int 0, .int 0, .ref z22, .ref z23, .ref z24, .ref z25, .ref z26, .ref z27, .ref z28, .ref z29, .ref z30, .ref z31, .ref z32, .ref z33, .int 0, .long 0, .ref z36, .ref z37, .ref z38, .ref z39, .ref z40, .ref z41, .ref z42, .ref z43, .ref z44, .ref z45, .ref z46, .ref z47, .ref z48, .int 0, .int 10, .int 0, .int 0, .int 0, .int 0, .ref z55, .ref z56, .int 0, .int 0, .ref z59, .ref z60, .ref z61, .int 0, .long 0])), (z2, .inl (γ.2.1 0, 1000, .inl f_1553))] s H locs := hw
          refine lv_iinc (v := 16) (lv' := [(7, .int 16), (10, .int x_1550), (8, .long vb), (0, .ref z), (1, .long va), (3, .long vb), (5, .long vc)]) hx hb dX12_feed_114 hl (k := 2) rfl (by decide) (by decide) rfl (fun ls hl => ?_)
          refine lv_goto (tgt := 8) hx hb dX12_feed_117 (by decide) ?_
          have hst : kst n (kby vb 0) = (n + 1) := by rw [← hk]; exact (by first | exact kst_full hfull | exact kst_a c76 hlt | exact kst_b c83 c90 hlt | exact kst_lo c76 c83 | exact kst_hi c76 c90)
          exact mf_16 z z2 z10 z11 z12 z13 z14 z15 z16 z17 z18 z19 z22 z23 z24 z25 z26 z27 z28 z29 z30 z31 z32 z33 z36 z37 z38 z39 z40 z41 z42 z43 z44 z45 z46 z47 z48 z55 z56 z59 z60 z61 va vb vc (n + 1) f_1553 (by omega) F (by have h9 : kad vc 8 (kst n (kby vb 0)) = F := hF; rw [hst] at h9; exact h9) hC hr hlocks _ _ (kW.sub hw [0, 1] rfl rfl) _ (lv_sub hl [0, 3, 4, 5, 6] rfl)

set_option maxHeartbeats 4000000 in
set_option maxRecDepth 100000 in
theorem mf_14 {γ : kΓ} {l : Launch} {p : Program} {e : Env} {s : State} {m : MethodId} {below : List Frame} {meth : Method} {c : Code} {A : Nat → Prop} (z : Nat) (z2 : Nat) (z10 : Nat) (z11 : Nat) (z12 : Nat) (z13 : Nat) (z14 : Nat) (z15 : Nat) (z16 : Nat) (z17 : Nat) (z18 : Nat) (z19 : Nat) (z22 : Nat) (z23 : Nat) (z24 : Nat) (z25 : Nat) (z26 : Nat) (z27 : Nat) (z28 : Nat) (z29 : Nat) (z30 : Nat) (z31 : Nat) (z32 : Nat) (z33 : Nat) (z36 : Nat) (z37 : Nat) (z38 : Nat) (z39 : Nat) (z40 : Nat) (z41 : Nat) (z42 : Nat) (z43 : Nat) (z44 : Nat) (z45 : Nat) (z46 : Nat) (z47 : Nat) (z48 : Nat) (z55 : Nat) (z56 : Nat) (z59 : Nat) (z60 : Nat) (z61 : Nat) (va : Int64) (vb : Int64) (vc : Int64) (n : Nat) (f : Nat → Int32) (hn : n ≤ 1000) (F : Nat) (hF : kad vc 8 (kad vb 2 n) = F) (hC : kC γ p s m [.ref z, .long va, .long vb, .long vc].toArray c cX12_feed 11 RX12 A) (hr : meth.sig.returnType = (some .int)) (hlocks : meth.locks = false) (H : Heap) (locs : List Loc) (hw : kW γ A [(z, .inr (11, [.int 0, .int (nI n), .ref z2, .int 0, .int 0, .int 0, .int 0, .long 0, .int 0, .int 0, .ref z10, .ref z11, .ref z12, .ref z13, .ref z14, .ref z15, .ref z16, .ref z17, .ref z18, .ref z19, .int 0, .int 0, .ref z22, .ref z23, .ref z24, .ref z25, .ref z26, .ref z27, .ref z28, .ref z29, .ref z30, .ref z31, .ref z32, .ref z33, .int 0, .long 0, .ref z36, .ref z37, .ref z38, .ref z39, .ref z40, .ref z41, .ref z42, .ref z43, .ref z44, .ref z45, .ref z46, .ref z47, .ref z48, .int 0, .int 10, .int 0, .int 0, .int 0, .int 0, .ref z55, .ref z56, .int 0, .int 0, .ref z59, .ref z60, .ref z61, .int 0, .long 0])), (z2, .inl (γ.2.1 0, 1000, .inl f))] s H locs) (ls : Array Slot) (hl : lv_has ls 11 [(7, .int 14), (0, .ref z), (1, .long va), (3, .long vb), (5, .long vc)]) : W p l e ({ frames := 0, cells := 0, slots := 0, locals := 0 } : Room) s m [.ref z, .long va, .long vb, .long vc].toArray below meth c H locs 0 0 (MQ below (kQ γ A (fun r w1 => r = some (.int (nI F)) ∧ w1 = [])) [.ref z, .long va, .long vb, .long vc].toArray s 0 0 A) (F0 m 8 ls []) := by
  have hx := hC.1
  have hb := hC.2.1
  refine lv_iload hx hb dX12_feed_8 (lv_at hl 0 rfl) ?_
  refine lv_bipush (v := 24) hx hb dX12_feed_10 (by decide) ?_
  refine lv_icmp_ge (tgt := 120) hx hb dX12_feed_12 (by decide) (fun h => absurd h (by decide)) (fun _ => ?_)
  refine lv_iload hx hb dX12_feed_15 (lv_at hl 0 rfl) ?_
  refine lv_bipush (v := 8) hx hb dX12_feed_17 (by decide) ?_
  refine lv_icmp_ge (tgt := 26) hx hb dX12_feed_19 (by decide) (fun _ => ?_) (fun h => absurd (by decide) h)
  refine lv_iload hx hb dX12_feed_26 (lv_at hl 0 rfl) ?_
  refine lv_bipush (v := 16) hx hb dX12_feed_28 (by decide) ?_
  refine lv_icmp_ge (tgt := 37) hx hb dX12_feed_30 (by decide) (fun h => absurd h (by decide)) (fun _ => ?_)
  refine lv_lload_n hx hb dX12_feed_33 rfl (lv_at hl 3 rfl) ?_
  refine lv_goto (tgt := 39) hx hb dX12_feed_34 (by decide) ?_
  refine lv_lstore (lv' := [(8, .long vb), (7, .int 14), (0, .ref z), (1, .long va), (3, .long vb), (5, .long vc)]) hx hb dX12_feed_39 hl (by decide) rfl (fun ls hl => ?_)
  refine lv_lload hx hb dX12_feed_41 (lv_at hl 0 rfl) ?_
  refine lv_bipush (v := 56) hx hb dX12_feed_43 (by decide) ?_
  refine lv_bipush (v := 8) hx hb dX12_feed_45 (by decide) ?_
  refine lv_iload hx hb dX12_feed_47 (lv_at hl 1 rfl) ?_
  refine lv_bipush (v := 7) hx hb dX12_feed_49 (by decide) ?_
  refine lv_iand hx hb dX12_feed_51 ?_
  refine lv_topi (fun x_1555 ex_1555 => ?_)
  obtain rfl : x_1555 = 6 := ex_1555.trans (by decide)
  refine lv_imul hx hb dX12_feed_52 ?_
  refine lv_topi (fun x_1556 ex_1556 => ?_)
  obtain rfl : x_1556 = 48 := ex_1556.trans (by decide)
  refine lv_isub hx hb dX12_feed_53 ?_
  refine lv_topi (fun x_1557 ex_1557 => ?_)
  obtain rfl : x_1557 = 8 := ex_1557.trans (by decide)
  refine lv_lushr hx hb dX12_feed_54 rfl ?_
  refine lv_topl (fun x_1558 ex_1558 => ?_)
  refine k_ldc2 hC gw_1393 dX12_feed_55 ?_
  refine lv_land hx hb dX12_feed_58 ?_
  refine lv_topl (fun x_1559 ex_1559 => ?_)
  refine lv_l2i hx hb dX12_feed_59 rfl ?_
  refine lv_topi (fun x_1560 ex_1560 => ?_)
  refine lv_istore (lv' := [(10, .int x_1560), (8, .long vb), (7, .int 14), (0, .ref z), (1, .long va), (3, .long vb), (5, .long vc)]) hx hb dX12_feed_60 hl (by decide) rfl (fun ls hl => ?_)
  have hk : x_1560 = kby vb 8 := by rw [ex_1560, ex_1559, k_land, ex_1558]; rfl
  refine lv_aload_n hx hb dX12_feed_62 rfl (lv_at hl 3 rfl) ?_
  refine fg_RX12_148 hC hw 0 rfl rfl dX12_feed_63 ?_
  refine lv_sipush (v := 1000) hx hb dX12_feed_66 (by decide) ?_
  refine lv_icmp_ge (tgt := 114) hx hb dX12_feed_69 (by decide) (fun c69 => ?_) (fun c69 => ?_)
  · have hfull : ¬ n < 1000 := fun h9 => absurd c69 (nI_ge h9 (by decide))
    refine lv_iinc (v := 15) (lv' := [(7, .int 15), (10, .int x_1560), (8, .long vb), (0, .ref z), (1, .long va), (3, .long vb), (5, .long vc)]) hx hb dX12_feed_114 hl (k := 2) rfl (by decide) (by decide) rfl (fun ls hl => ?_)
    refine lv_goto (tgt := 8) hx hb dX12_feed_117 (by decide) ?_
    have hst : kst n (kby vb 8) = n := by rw [← hk]; exact (by first | exact kst_full hfull | exact kst_a c76 hlt | exact kst_b c83 c90 hlt | exact kst_lo c76 c83 | exact kst_hi c76 c90)
    exact mf_15 z z2 z10 z11 z12 z13 z14 z15 z16 z17 z18 z19 z22 z23 z24 z25 z26 z27 z28 z29 z30 z31 z32 z33 z36 z37 z38 z39 z40 z41 z42 z43 z44 z45 z46 z47 z48 z55 z56 z59 z60 z61 va vb vc n f (by omega) F (by have h9 : kad vc 8 (kad vb 1 (kst n (kby vb 8))) = F := hF; rw [hst] at h9; exact h9) hC hr hlocks _ _ (kW.sub hw [0, 1] rfl rfl) _ (lv_sub hl [0, 3, 4, 5, 6] rfl)
  · have hlt : n < 1000 := by rcases Nat.lt_or_ge n 1000 with h9 | h9; exact h9; exact absurd (nI_le h9 (by omega)) c69
    refine lv_iload hx hb dX12_feed_72 (lv_at hl 0 rfl) ?_
    refine lv_bipush (v := 10) hx hb dX12_feed_74 (by decide) ?_
    refine lv_icmp_eq (tgt := 93) hx hb dX12_feed_76 (by decide) (fun c76 => ?_) (fun c76 => ?_)
    · refine lv_aload_n hx hb dX12_feed_93 rfl (lv_at hl 3 rfl) ?_
      refine fg_RX12_7 hC hw 0 rfl rfl dX12_feed_94 ?_
      refine lv_aload_n hx hb dX12_feed_97 rfl (lv_at hl 3 rfl) ?_
      refine fg_RX12_148 hC hw 0 rfl rfl dX12_feed_98 ?_
      refine lv_iload hx hb dX12_feed_101 (lv_at hl 0 rfl) ?_
      refine k_iast hC hw 1 rfl (vp_in_nI hlt (by decide)) dX12_feed_103 (fun H locs hw => ?_)
      obtain ⟨f_1561, ef_1561⟩ : ∃ g, g = upd f ((nI n) : Int32).toNatClampNeg x_1560 := ⟨_, rfl⟩
      have hw : kW γ A [(z, .inr (11, [.int 0, .int (nI n), .ref z2, .int 0, .int 0, .int 0, .int 0, .long 0, .int 0, .int 0, .ref z10, .ref z11, .ref z12, .ref z13, .ref z14, .ref z15, .ref z16, .ref z17, .ref z18, .ref z19, .int 0, .int 0, .ref z22, .ref z23, .ref z24, .ref z25, .ref z26, .ref z27, .ref z28, .ref z29, .ref z30, .ref z31, .ref z32, .ref z33, .int 0, .long 0, .ref z36, .ref z37, .ref z38, .ref z39, .ref z40, .ref z41, .ref z42, .ref z43, .ref z44, .ref z45, .ref z46, .ref z47, .ref z48, .int 0, .int 10, .int 0, .int 0, .int 0, .int 0, .ref z55, .ref z56, .int 0, .int 0, .ref z59, .ref z60, .ref z61, .int 0, .long 0])), (z2, .inl (γ.2.1 0, 1000, .inl f_1561))] s H locs := by rw [ef_1561]; exact hw
      refine lv_aload_n hx hb dX12_feed_104 rfl (lv_at hl 3 rfl) ?_
      refine lv_dup hx hb dX12_feed_105 rfl ?_
      refine fg_RX12_148 hC hw 0 rfl rfl dX12_feed_106 ?_
      refine lv_iconst (v := 1) hx hb dX12_feed_109 (by decide) ?_
      refine lv_iadd hx hb dX12_feed_110 ?_
      refine lv_topi (fun x_1562 ex_1562 => ?_)
      obtain rfl : x_1562 = (nI (n + 1)) := ex_1562.trans (nI_1 n)
      refine fs_RX12_148 hC hw 0 rfl rfl rfl (Nat.le_of_ble_eq_true rfl) dX12_feed_111 (fun H locs hw => ?_)
      have hw : kW γ A [(z, .inr (11, [.int 0, .int (nI (n + 1)), .ref z2, .int 0, .int 0, .int 0, .int 0, .long 0, .int 0, .int 0, .ref z10, .ref z11, .ref z12, .ref z13, .ref z14, .ref z15, .ref z16, .ref z17, .ref z18, .ref z19, .int 0, .int 0, .ref z22, .ref z23, .ref z24, .ref z25, .ref z26, .ref z27, .ref z28, .ref z29, .ref z30, .ref z31, .ref z32, .ref z33, .int 0, .long 0, .ref z36, .ref z37, .ref z38, .ref z39, .ref z40, .ref z41, .ref z42, .ref z43, .ref z44, .ref z45, .ref z46, .ref z47, .ref z48, .int 0, .int 10, .int 0, .int 0, .int 0, .int 0, .ref z55, .ref z56, .int 0, .int 0, .ref z59, .ref z60, .ref z61, .int 0, .long 0])), (z2, .inl (γ.2.1 0, 1000, .inl f_1561))] s H locs := hw
      refine lv_iinc (v := 15) (lv' := [(7, .int 15), (10, .int x_1560), (8, .long vb), (0, .ref z), (1, .long va), (3, .long vb), (5, .long vc)]) hx hb dX12_feed_114 hl (k := 2) rfl (by decide) (by decide) rfl (fun ls hl => ?_)
      refine lv_goto (tgt := 8) hx hb dX12_feed_117 (by decide) ?_
      have hst : kst n (kby vb 8) = (n + 1) := by rw [← hk]; exact (by first | exact kst_full hfull | exact kst_a c76 hlt | exact kst_b c83 c90 hlt | exact kst_lo c76 c83 | exact kst_hi c76 c90)
      exact mf_15 z z2 z10 z11 z12 z13 z14 z15 z16 z17 z18 z19 z22 z23 z24 z25 z26 z27 z28 z29 z30 z31 z32 z33 z36 z37 z38 z39 z40 z41 z42 z43 z44 z45 z46 z47 z48 z55 z56 z59 z60 z61 va vb vc (n + 1) f_1561 (by omega) F (by have h9 : kad vc 8 (kad vb 1 (kst n (kby vb 8))) = F := hF; rw [hst] at h9; exact h9) hC hr hlocks _ _ (kW.sub hw [0, 1] rfl rfl) _ (lv_sub hl [0, 3, 4, 5, 6] rfl)
    · refine lv_iload hx hb dX12_feed_79 (lv_at hl 0 rfl) ?_
      refine lv_bipush (v := 32) hx hb dX12_feed_81 (by decide) ?_
      refine lv_icmp_lt (tgt := 114) hx hb dX12_feed_83 (by decide) (fun c83 => ?_) (fun c83 => ?_)
      · refine lv_iinc (v := 15) (lv' := [(7, .int 15), (10, .int x_1560), (8, .long vb), (0, .ref z), (1, .long va), (3, .long vb), (5, .long vc)]) hx hb dX12_feed_114 hl (k := 2) rfl (by decide) (by decide) rfl (fun ls hl => ?_)
        refine lv_goto (tgt := 8) hx hb dX12_feed_117 (by decide) ?_
        have hst : kst n (kby vb 8) = n := by rw [← hk]; exact (by first | exact kst_full hfull | exact kst_a c76 hlt | exact kst_b c83 c90 hlt | exact kst_lo c76 c83 | exact kst_hi c76 c90)
        exact mf_15 z z2 z10 z11 z12 z13 z14 z15 z16 z17 z18 z19 z22 z23 z24 z25 z26 z27 z28 z29 z30 z31 z32 z33 z36 z37 z38 z39 z40 z41 z42 z43 z44 z45 z46 z47 z48 z55 z56 z59 z60 z61 va vb vc n f (by omega) F (by have h9 : kad vc 8 (kad vb 1 (kst n (kby vb 8))) = F := hF; rw [hst] at h9; exact h9) hC hr hlocks _ _ (kW.sub hw [0, 1] rfl rfl) _ (lv_sub hl [0, 3, 4, 5, 6] rfl)
      · refine lv_iload hx hb dX12_feed_86 (lv_at hl 0 rfl) ?_
        refine lv_bipush (v := 126) hx hb dX12_feed_88 (by decide) ?_
        refine lv_icmp_gt (tgt := 114) hx hb dX12_feed_90 (by decide) (fun c90 => ?_) (fun c90 => ?_)
        · refine lv_iinc (v := 15) (lv' := [(7, .int 15), (10, .int x_1560), (8, .long vb), (0, .ref z), (1, .long va), (3, .long vb), (5, .long vc)]) hx hb dX12_feed_114 hl (k := 2) rfl (by decide) (by decide) rfl (fun ls hl => ?_)
          refine lv_goto (tgt := 8) hx hb dX12_feed_117 (by decide) ?_
          have hst : kst n (kby vb 8) = n := by rw [← hk]; exact (by first | exact kst_full hfull | exact kst_a c76 hlt | exact kst_b c83 c90 hlt | exact kst_lo c76 c83 | exact kst_hi c76 c90)
          exact mf_15 z z2 z10 z11 z12 z13 z14 z15 z16 z17 z18 z19 z22 z23 z24 z25 z26 z27 z28 z29 z30 z31 z32 z33 z36 z37 z38 z39 z40 z41 z42 z43 z44 z45 z46 z47 z48 z55 z56 z59 z60 z61 va vb vc n f (by omega) F (by have h9 : kad vc 8 (kad vb 1 (kst n (kby vb 8))) = F := hF; rw [hst] at h9; exact h9) hC hr hlocks _ _ (kW.sub hw [0, 1] rfl rfl) _ (lv_sub hl [0, 3, 4, 5, 6] rfl)
        · refine lv_aload_n hx hb dX12_feed_93 rfl (lv_at hl 3 rfl) ?_
          refine fg_RX12_7 hC hw 0 rfl rfl dX12_feed_94 ?_
          refine lv_aload_n hx hb dX12_feed_97 rfl (lv_at hl 3 rfl) ?_
          refine fg_RX12_148 hC hw 0 rfl rfl dX12_feed_98 ?_
          refine lv_iload hx hb dX12_feed_101 (lv_at hl 0 rfl) ?_
          refine k_iast hC hw 1 rfl (vp_in_nI hlt (by decide)) dX12_feed_103 (fun H locs hw => ?_)
          obtain ⟨f_1563, ef_1563⟩ : ∃ g, g = upd f ((nI n) : Int32).toNatClampNeg x_1560 := ⟨_, rfl⟩
          have hw : kW γ A [(z, .inr (11, [.int 0, .int (nI n), .ref z2, .int 0, .int 0, .int 0, .int 0, .long 0, .int 0, .int 0, .ref z10, .ref z11, .ref z12, .ref z13, .ref z14, .ref z15, .ref z16, .ref z17, .ref z18, .ref z19, .int 0, .int 0, .ref z22, .ref z23, .ref z24, .ref z25, .ref z26, .ref z27, .ref z28, .ref z29, .ref z30, .ref z31, .ref z32, .ref z33, .int 0, .long 0, .ref z36, .ref z37, .ref z38, .ref z39, .ref z40, .ref z41, .ref z42, .ref z43, .ref z44, .ref z45, .ref z46, .ref z47, .ref z48, .int 0, .int 10, .int 0, .int 0, .int 0, .int 0, .ref z55, .ref z56, .int 0, .int 0, .ref z59, .ref z60, .ref z61, .int 0, .long 0])), (z2, .inl (γ.2.1 0, 1000, .inl f_1563))] s H locs := by rw [ef_1563]; exact hw
          refine lv_aload_n hx hb dX12_feed_104 rfl (lv_at hl 3 rfl) ?_
          refine lv_dup hx hb dX12_feed_105 rfl ?_
          refine fg_RX12_148 hC hw 0 rfl rfl dX12_feed_106 ?_
          refine lv_iconst (v := 1) hx hb dX12_feed_109 (by decide) ?_
          refine lv_iadd hx hb dX12_feed_110 ?_
          refine lv_topi (fun x_1564 ex_1564 => ?_)
          obtain rfl : x_1564 = (nI (n + 1)) := ex_1564.trans (nI_1 n)
          refine fs_RX12_148 hC hw 0 rfl rfl rfl (Nat.le_of_ble_eq_true rfl) dX12_feed_111 (fun H locs hw => ?_)
          have hw : kW γ A [(z, .inr (11, [.int 0, .int (nI (n + 1)), .ref z2, .int 0, .int 0, .int 0, .int 0, .long 0, .int 0, .int 0, .ref z10, .ref z11, .ref z12, .ref z13, .ref z14, .ref z15, .ref z16, .ref z17, .ref z18, .ref z19, .int 0, .int 0, .ref z22, .ref z23, .ref z24, .ref z25, .ref z26, .ref z27, .ref z28, .ref z29, .ref z30, .ref z31, .ref z32, .ref z33, .int 0, .long 0, .ref z36, .ref z37, .ref z38, .ref z39, .ref z40, .ref z41, .ref z42, .ref z43, .ref z44, .ref z45, .ref z46, .ref z47, .ref z48, .int 0, .int 10, .int 0, .int 0, .int 0, .int 0, .ref z55, .ref z56, .int 0, .int 0, .ref z59, .ref z60, .ref z61, .int 0, .long 0])), (z2, .inl (γ.2.1 0, 1000, .inl f_1563))] s H locs := hw
          refine lv_iinc (v := 15) (lv' := [(7, .int 15), (10, .int x_1560), (8, .long vb), (0, .ref z), (1, .long va), (3, .long vb), (5, .long vc)]) hx hb dX12_feed_114 hl (k := 2) rfl (by decide) (by decide) rfl (fun ls hl => ?_)
          refine lv_goto (tgt := 8) hx hb dX12_feed_117 (by decide) ?_
          have hst : kst n (kby vb 8) = (n + 1) := by rw [← hk]; exact (by first | exact kst_full hfull | exact kst_a c76 hlt | exact kst_b c83 c90 hlt | exact kst_lo c76 c83 | exact kst_hi c76 c90)
          exact mf_15 z z2 z10 z11 z12 z13 z14 z15 z16 z17 z18 z19 z22 z23 z24 z25 z26 z27 z28 z29 z30 z31 z32 z33 z36 z37 z38 z39 z40 z41 z42 z43 z44 z45 z46 z47 z48 z55 z56 z59 z60 z61 va vb vc (n + 1) f_1563 (by omega) F (by have h9 : kad vc 8 (kad vb 1 (kst n (kby vb 8))) = F := hF; rw [hst] at h9; exact h9) hC hr hlocks _ _ (kW.sub hw [0, 1] rfl rfl) _ (lv_sub hl [0, 3, 4, 5, 6] rfl)

set_option maxHeartbeats 4000000 in
set_option maxRecDepth 100000 in
theorem mf_13 {γ : kΓ} {l : Launch} {p : Program} {e : Env} {s : State} {m : MethodId} {below : List Frame} {meth : Method} {c : Code} {A : Nat → Prop} (z : Nat) (z2 : Nat) (z10 : Nat) (z11 : Nat) (z12 : Nat) (z13 : Nat) (z14 : Nat) (z15 : Nat) (z16 : Nat) (z17 : Nat) (z18 : Nat) (z19 : Nat) (z22 : Nat) (z23 : Nat) (z24 : Nat) (z25 : Nat) (z26 : Nat) (z27 : Nat) (z28 : Nat) (z29 : Nat) (z30 : Nat) (z31 : Nat) (z32 : Nat) (z33 : Nat) (z36 : Nat) (z37 : Nat) (z38 : Nat) (z39 : Nat) (z40 : Nat) (z41 : Nat) (z42 : Nat) (z43 : Nat) (z44 : Nat) (z45 : Nat) (z46 : Nat) (z47 : Nat) (z48 : Nat) (z55 : Nat) (z56 : Nat) (z59 : Nat) (z60 : Nat) (z61 : Nat) (va : Int64) (vb : Int64) (vc : Int64) (n : Nat) (f : Nat → Int32) (hn : n ≤ 1000) (F : Nat) (hF : kad vc 8 (kad vb 3 n) = F) (hC : kC γ p s m [.ref z, .long va, .long vb, .long vc].toArray c cX12_feed 11 RX12 A) (hr : meth.sig.returnType = (some .int)) (hlocks : meth.locks = false) (H : Heap) (locs : List Loc) (hw : kW γ A [(z, .inr (11, [.int 0, .int (nI n), .ref z2, .int 0, .int 0, .int 0, .int 0, .long 0, .int 0, .int 0, .ref z10, .ref z11, .ref z12, .ref z13, .ref z14, .ref z15, .ref z16, .ref z17, .ref z18, .ref z19, .int 0, .int 0, .ref z22, .ref z23, .ref z24, .ref z25, .ref z26, .ref z27, .ref z28, .ref z29, .ref z30, .ref z31, .ref z32, .ref z33, .int 0, .long 0, .ref z36, .ref z37, .ref z38, .ref z39, .ref z40, .ref z41, .ref z42, .ref z43, .ref z44, .ref z45, .ref z46, .ref z47, .ref z48, .int 0, .int 10, .int 0, .int 0, .int 0, .int 0, .ref z55, .ref z56, .int 0, .int 0, .ref z59, .ref z60, .ref z61, .int 0, .long 0])), (z2, .inl (γ.2.1 0, 1000, .inl f))] s H locs) (ls : Array Slot) (hl : lv_has ls 11 [(7, .int 13), (0, .ref z), (1, .long va), (3, .long vb), (5, .long vc)]) : W p l e ({ frames := 0, cells := 0, slots := 0, locals := 0 } : Room) s m [.ref z, .long va, .long vb, .long vc].toArray below meth c H locs 0 0 (MQ below (kQ γ A (fun r w1 => r = some (.int (nI F)) ∧ w1 = [])) [.ref z, .long va, .long vb, .long vc].toArray s 0 0 A) (F0 m 8 ls []) := by
  have hx := hC.1
  have hb := hC.2.1
  refine lv_iload hx hb dX12_feed_8 (lv_at hl 0 rfl) ?_
  refine lv_bipush (v := 24) hx hb dX12_feed_10 (by decide) ?_
  refine lv_icmp_ge (tgt := 120) hx hb dX12_feed_12 (by decide) (fun h => absurd h (by decide)) (fun _ => ?_)
  refine lv_iload hx hb dX12_feed_15 (lv_at hl 0 rfl) ?_
  refine lv_bipush (v := 8) hx hb dX12_feed_17 (by decide) ?_
  refine lv_icmp_ge (tgt := 26) hx hb dX12_feed_19 (by decide) (fun _ => ?_) (fun h => absurd (by decide) h)
  refine lv_iload hx hb dX12_feed_26 (lv_at hl 0 rfl) ?_
  refine lv_bipush (v := 16) hx hb dX12_feed_28 (by decide) ?_
  refine lv_icmp_ge (tgt := 37) hx hb dX12_feed_30 (by decide) (fun h => absurd h (by decide)) (fun _ => ?_)
  refine lv_lload_n hx hb dX12_feed_33 rfl (lv_at hl 3 rfl) ?_
  refine lv_goto (tgt := 39) hx hb dX12_feed_34 (by decide) ?_
  refine lv_lstore (lv' := [(8, .long vb), (7, .int 13), (0, .ref z), (1, .long va), (3, .long vb), (5, .long vc)]) hx hb dX12_feed_39 hl (by decide) rfl (fun ls hl => ?_)
  refine lv_lload hx hb dX12_feed_41 (lv_at hl 0 rfl) ?_
  refine lv_bipush (v := 56) hx hb dX12_feed_43 (by decide) ?_
  refine lv_bipush (v := 8) hx hb dX12_feed_45 (by decide) ?_
  refine lv_iload hx hb dX12_feed_47 (lv_at hl 1 rfl) ?_
  refine lv_bipush (v := 7) hx hb dX12_feed_49 (by decide) ?_
  refine lv_iand hx hb dX12_feed_51 ?_
  refine lv_topi (fun x_1565 ex_1565 => ?_)
  obtain rfl : x_1565 = 5 := ex_1565.trans (by decide)
  refine lv_imul hx hb dX12_feed_52 ?_
  refine lv_topi (fun x_1566 ex_1566 => ?_)
  obtain rfl : x_1566 = 40 := ex_1566.trans (by decide)
  refine lv_isub hx hb dX12_feed_53 ?_
  refine lv_topi (fun x_1567 ex_1567 => ?_)
  obtain rfl : x_1567 = 16 := ex_1567.trans (by decide)
  refine lv_lushr hx hb dX12_feed_54 rfl ?_
  refine lv_topl (fun x_1568 ex_1568 => ?_)
  refine k_ldc2 hC gw_1393 dX12_feed_55 ?_
  refine lv_land hx hb dX12_feed_58 ?_
  refine lv_topl (fun x_1569 ex_1569 => ?_)
  refine lv_l2i hx hb dX12_feed_59 rfl ?_
  refine lv_topi (fun x_1570 ex_1570 => ?_)
  refine lv_istore (lv' := [(10, .int x_1570), (8, .long vb), (7, .int 13), (0, .ref z), (1, .long va), (3, .long vb), (5, .long vc)]) hx hb dX12_feed_60 hl (by decide) rfl (fun ls hl => ?_)
  have hk : x_1570 = kby vb 16 := by rw [ex_1570, ex_1569, k_land, ex_1568]; rfl
  refine lv_aload_n hx hb dX12_feed_62 rfl (lv_at hl 3 rfl) ?_
  refine fg_RX12_148 hC hw 0 rfl rfl dX12_feed_63 ?_
  refine lv_sipush (v := 1000) hx hb dX12_feed_66 (by decide) ?_
  refine lv_icmp_ge (tgt := 114) hx hb dX12_feed_69 (by decide) (fun c69 => ?_) (fun c69 => ?_)
  · have hfull : ¬ n < 1000 := fun h9 => absurd c69 (nI_ge h9 (by decide))
    refine lv_iinc (v := 14) (lv' := [(7, .int 14), (10, .int x_1570), (8, .long vb), (0, .ref z), (1, .long va), (3, .long vb), (5, .long vc)]) hx hb dX12_feed_114 hl (k := 2) rfl (by decide) (by decide) rfl (fun ls hl => ?_)
    refine lv_goto (tgt := 8) hx hb dX12_feed_117 (by decide) ?_
    have hst : kst n (kby vb 16) = n := by rw [← hk]; exact (by first | exact kst_full hfull | exact kst_a c76 hlt | exact kst_b c83 c90 hlt | exact kst_lo c76 c83 | exact kst_hi c76 c90)
    exact mf_14 z z2 z10 z11 z12 z13 z14 z15 z16 z17 z18 z19 z22 z23 z24 z25 z26 z27 z28 z29 z30 z31 z32 z33 z36 z37 z38 z39 z40 z41 z42 z43 z44 z45 z46 z47 z48 z55 z56 z59 z60 z61 va vb vc n f (by omega) F (by have h9 : kad vc 8 (kad vb 2 (kst n (kby vb 16))) = F := hF; rw [hst] at h9; exact h9) hC hr hlocks _ _ (kW.sub hw [0, 1] rfl rfl) _ (lv_sub hl [0, 3, 4, 5, 6] rfl)
  · have hlt : n < 1000 := by rcases Nat.lt_or_ge n 1000 with h9 | h9; exact h9; exact absurd (nI_le h9 (by omega)) c69
    refine lv_iload hx hb dX12_feed_72 (lv_at hl 0 rfl) ?_
    refine lv_bipush (v := 10) hx hb dX12_feed_74 (by decide) ?_
    refine lv_icmp_eq (tgt := 93) hx hb dX12_feed_76 (by decide) (fun c76 => ?_) (fun c76 => ?_)
    · refine lv_aload_n hx hb dX12_feed_93 rfl (lv_at hl 3 rfl) ?_
      refine fg_RX12_7 hC hw 0 rfl rfl dX12_feed_94 ?_
      refine lv_aload_n hx hb dX12_feed_97 rfl (lv_at hl 3 rfl) ?_
      refine fg_RX12_148 hC hw 0 rfl rfl dX12_feed_98 ?_
      refine lv_iload hx hb dX12_feed_101 (lv_at hl 0 rfl) ?_
      refine k_iast hC hw 1 rfl (vp_in_nI hlt (by decide)) dX12_feed_103 (fun H locs hw => ?_)
      obtain ⟨f_1571, ef_1571⟩ : ∃ g, g = upd f ((nI n) : Int32).toNatClampNeg x_1570 := ⟨_, rfl⟩
      have hw : kW γ A [(z, .inr (11, [.int 0, .int (nI n), .ref z2, .int 0, .int 0, .int 0, .int 0, .long 0, .int 0, .int 0, .ref z10, .ref z11, .ref z12, .ref z13, .ref z14, .ref z15, .ref z16, .ref z17, .ref z18, .ref z19, .int 0, .int 0, .ref z22, .ref z23, .ref z24, .ref z25, .ref z26, .ref z27, .ref z28, .ref z29, .ref z30, .ref z31, .ref z32, .ref z33, .int 0, .long 0, .ref z36, .ref z37, .ref z38, .ref z39, .ref z40, .ref z41, .ref z42, .ref z43, .ref z44, .ref z45, .ref z46, .ref z47, .ref z48, .int 0, .int 10, .int 0, .int 0, .int 0, .int 0, .ref z55, .ref z56, .int 0, .int 0, .ref z59, .ref z60, .ref z61, .int 0, .long 0])), (z2, .inl (γ.2.1 0, 1000, .inl f_1571))] s H locs := by rw [ef_1571]; exact hw
      refine lv_aload_n hx hb dX12_feed_104 rfl (lv_at hl 3 rfl) ?_
      refine lv_dup hx hb dX12_feed_105 rfl ?_
      refine fg_RX12_148 hC hw 0 rfl rfl dX12_feed_106 ?_
      refine lv_iconst (v := 1) hx hb dX12_feed_109 (by decide) ?_
      refine lv_iadd hx hb dX12_feed_110 ?_
      refine lv_topi (fun x_1572 ex_1572 => ?_)
      obtain rfl : x_1572 = (nI (n + 1)) := ex_1572.trans (nI_1 n)
      refine fs_RX12_148 hC hw 0 rfl rfl rfl (Nat.le_of_ble_eq_true rfl) dX12_feed_111 (fun H locs hw => ?_)
      have hw : kW γ A [(z, .inr (11, [.int 0, .int (nI (n + 1)), .ref z2, .int 0, .int 0, .int 0, .int 0, .long 0, .int 0, .int 0, .ref z10, .ref z11, .ref z12, .ref z13, .ref z14, .ref z15, .ref z16, .ref z17, .ref z18, .ref z19, .int 0, .int 0, .ref z22, .ref z23, .ref z24, .ref z25, .ref z26, .ref z27, .ref z28, .ref z29, .ref z30, .ref z31, .ref z32, .ref z33, .int 0, .long 0, .ref z36, .ref z37, .ref z38, .ref z39, .ref z40, .ref z41, .ref z42, .ref z43, .ref z44, .ref z45, .ref z46, .ref z47, .ref z48, .int 0, .int 10, .int 0, .int 0, .int 0, .int 0, .ref z55, .ref z56, .int 0, .int 0, .ref z59, .ref z60, .ref z61, .int 0, .long 0])), (z2, .inl (γ.2.1 0, 1000, .inl f_1571))] s H locs := hw
      refine lv_iinc (v := 14) (lv' := [(7, .int 14), (10, .int x_1570), (8, .long vb), (0, .ref z), (1, .long va), (3, .long vb), (5, .long vc)]) hx hb dX12_feed_114 hl (k := 2) rfl (by decide) (by decide) rfl (fun ls hl => ?_)
      refine lv_goto (tgt := 8) hx hb dX12_feed_117 (by decide) ?_
      have hst : kst n (kby vb 16) = (n + 1) := by rw [← hk]; exact (by first | exact kst_full hfull | exact kst_a c76 hlt | exact kst_b c83 c90 hlt | exact kst_lo c76 c83 | exact kst_hi c76 c90)
      exact mf_14 z z2 z10 z11 z12 z13 z14 z15 z16 z17 z18 z19 z22 z23 z24 z25 z26 z27 z28 z29 z30 z31 z32 z33 z36 z37 z38 z39 z40 z41 z42 z43 z44 z45 z46 z47 z48 z55 z56 z59 z60 z61 va vb vc (n + 1) f_1571 (by omega) F (by have h9 : kad vc 8 (kad vb 2 (kst n (kby vb 16))) = F := hF; rw [hst] at h9; exact h9) hC hr hlocks _ _ (kW.sub hw [0, 1] rfl rfl) _ (lv_sub hl [0, 3, 4, 5, 6] rfl)
    · refine lv_iload hx hb dX12_feed_79 (lv_at hl 0 rfl) ?_
      refine lv_bipush (v := 32) hx hb dX12_feed_81 (by decide) ?_
      refine lv_icmp_lt (tgt := 114) hx hb dX12_feed_83 (by decide) (fun c83 => ?_) (fun c83 => ?_)
      · refine lv_iinc (v := 14) (lv' := [(7, .int 14), (10, .int x_1570), (8, .long vb), (0, .ref z), (1, .long va), (3, .long vb), (5, .long vc)]) hx hb dX12_feed_114 hl (k := 2) rfl (by decide) (by decide) rfl (fun ls hl => ?_)
        refine lv_goto (tgt := 8) hx hb dX12_feed_117 (by decide) ?_
        have hst : kst n (kby vb 16) = n := by rw [← hk]; exact (by first | exact kst_full hfull | exact kst_a c76 hlt | exact kst_b c83 c90 hlt | exact kst_lo c76 c83 | exact kst_hi c76 c90)
        exact mf_14 z z2 z10 z11 z12 z13 z14 z15 z16 z17 z18 z19 z22 z23 z24 z25 z26 z27 z28 z29 z30 z31 z32 z33 z36 z37 z38 z39 z40 z41 z42 z43 z44 z45 z46 z47 z48 z55 z56 z59 z60 z61 va vb vc n f (by omega) F (by have h9 : kad vc 8 (kad vb 2 (kst n (kby vb 16))) = F := hF; rw [hst] at h9; exact h9) hC hr hlocks _ _ (kW.sub hw [0, 1] rfl rfl) _ (lv_sub hl [0, 3, 4, 5, 6] rfl)
      · refine lv_iload hx hb dX12_feed_86 (lv_at hl 0 rfl) ?_
        refine lv_bipush (v := 126) hx hb dX12_feed_88 (by decide) ?_
        refine lv_icmp_gt (tgt := 114) hx hb dX12_feed_90 (by decide) (fun c90 => ?_) (fun c90 => ?_)
        · refine lv_iinc (v := 14) (lv' := [(7, .int 14), (10, .int x_1570), (8, .long vb), (0, .ref z), (1, .long va), (3, .long vb), (5, .long vc)]) hx hb dX12_feed_114 hl (k := 2) rfl (by decide) (by decide) rfl (fun ls hl => ?_)
          refine lv_goto (tgt := 8) hx hb dX12_feed_117 (by decide) ?_
          have hst : kst n (kby vb 16) = n := by rw [← hk]; exact (by first | exact kst_full hfull | exact kst_a c76 hlt | exact kst_b c83 c90 hlt | exact kst_lo c76 c83 | exact kst_hi c76 c90)
          exact mf_14 z z2 z10 z11 z12 z13 z14 z15 z16 z17 z18 z19 z22 z23 z24 z25 z26 z27 z28 z29 z30 z31 z32 z33 z36 z37 z38 z39 z40 z41 z42 z43 z44 z45 z46 z47 z48 z55 z56 z59 z60 z61 va vb vc n f (by omega) F (by have h9 : kad vc 8 (kad vb 2 (kst n (kby vb 16))) = F := hF; rw [hst] at h9; exact h9) hC hr hlocks _ _ (kW.sub hw [0, 1] rfl rfl) _ (lv_sub hl [0, 3, 4, 5, 6] rfl)
        · refine lv_aload_n hx hb dX12_feed_93 rfl (lv_at hl 3 rfl) ?_
          refine fg_RX12_7 hC hw 0 rfl rfl dX12_feed_94 ?_
          refine lv_aload_n hx hb dX12_feed_97 rfl (lv_at hl 3 rfl) ?_
          refine fg_RX12_148 hC hw 0 rfl rfl dX12_feed_98 ?_
          refine lv_iload hx hb dX12_feed_101 (lv_at hl 0 rfl) ?_
          refine k_iast hC hw 1 rfl (vp_in_nI hlt (by decide)) dX12_feed_103 (fun H locs hw => ?_)
          obtain ⟨f_1573, ef_1573⟩ : ∃ g, g = upd f ((nI n) : Int32).toNatClampNeg x_1570 := ⟨_, rfl⟩
          have hw : kW γ A [(z, .inr (11, [.int 0, .int (nI n), .ref z2, .int 0, .int 0, .int 0, .int 0, .long 0, .int 0, .int 0, .ref z10, .ref z11, .ref z12, .ref z13, .ref z14, .ref z15, .ref z16, .ref z17, .ref z18, .ref z19, .int 0, .int 0, .ref z22, .ref z23, .ref z24, .ref z25, .ref z26, .ref z27, .ref z28, .ref z29, .ref z30, .ref z31, .ref z32, .ref z33, .int 0, .long 0, .ref z36, .ref z37, .ref z38, .ref z39, .ref z40, .ref z41, .ref z42, .ref z43, .ref z44, .ref z45, .ref z46, .ref z47, .ref z48, .int 0, .int 10, .int 0, .int 0, .int 0, .int 0, .ref z55, .ref z56, .int 0, .int 0, .ref z59, .ref z60, .ref z61, .int 0, .long 0])), (z2, .inl (γ.2.1 0, 1000, .inl f_1573))] s H locs := by rw [ef_1573]; exact hw
          refine lv_aload_n hx hb dX12_feed_104 rfl (lv_at hl 3 rfl) ?_
          refine lv_dup hx hb dX12_feed_105 rfl ?_
          refine fg_RX12_148 hC hw 0 rfl rfl dX12_feed_106 ?_
          refine lv_iconst (v := 1) hx hb dX12_feed_109 (by decide) ?_
          refine lv_iadd hx hb dX12_feed_110 ?_
          refine lv_topi (fun x_1574 ex_1574 => ?_)
          obtain rfl : x_1574 = (nI (n + 1)) := ex_1574.trans (nI_1 n)
          refine fs_RX12_148 hC hw 0 rfl rfl rfl (Nat.le_of_ble_eq_true rfl) dX12_feed_111 (fun H locs hw => ?_)
          have hw : kW γ A [(z, .inr (11, [.int 0, .int (nI (n + 1)), .ref z2, .int 0, .int 0, .int 0, .int 0, .long 0, .int 0, .int 0, .ref z10, .ref z11, .ref z12, .ref z13, .ref z14, .ref z15, .ref z16, .ref z17, .ref z18, .ref z19, .int 0, .int 0, .ref z22, .ref z23, .ref z24, .ref z25, .ref z26, .ref z27, .ref z28, .ref z29, .ref z30, .ref z31, .ref z32, .ref z33, .int 0, .long 0, .ref z36, .ref z37, .ref z38, .ref z39, .ref z40, .ref z41, .ref z42, .ref z43, .ref z44, .ref z45, .ref z46, .ref z47, .ref z48, .int 0, .int 10, .int 0, .int 0, .int 0, .int 0, .ref z55, .ref z56, .int 0, .int 0, .ref z59, .ref z60, .ref z61, .int 0, .long 0])), (z2, .inl (γ.2.1 0, 1000, .inl f_1573))] s H locs := hw
          refine lv_iinc (v := 14) (lv' := [(7, .int 14), (10, .int x_1570), (8, .long vb), (0, .ref z), (1, .long va), (3, .long vb), (5, .long vc)]) hx hb dX12_feed_114 hl (k := 2) rfl (by decide) (by decide) rfl (fun ls hl => ?_)
          refine lv_goto (tgt := 8) hx hb dX12_feed_117 (by decide) ?_
          have hst : kst n (kby vb 16) = (n + 1) := by rw [← hk]; exact (by first | exact kst_full hfull | exact kst_a c76 hlt | exact kst_b c83 c90 hlt | exact kst_lo c76 c83 | exact kst_hi c76 c90)
          exact mf_14 z z2 z10 z11 z12 z13 z14 z15 z16 z17 z18 z19 z22 z23 z24 z25 z26 z27 z28 z29 z30 z31 z32 z33 z36 z37 z38 z39 z40 z41 z42 z43 z44 z45 z46 z47 z48 z55 z56 z59 z60 z61 va vb vc (n + 1) f_1573 (by omega) F (by have h9 : kad vc 8 (kad vb 2 (kst n (kby vb 16))) = F := hF; rw [hst] at h9; exact h9) hC hr hlocks _ _ (kW.sub hw [0, 1] rfl rfl) _ (lv_sub hl [0, 3, 4, 5, 6] rfl)

set_option maxHeartbeats 4000000 in
set_option maxRecDepth 100000 in
theorem mf_12 {γ : kΓ} {l : Launch} {p : Program} {e : Env} {s : State} {m : MethodId} {below : List Frame} {meth : Method} {c : Code} {A : Nat → Prop} (z : Nat) (z2 : Nat) (z10 : Nat) (z11 : Nat) (z12 : Nat) (z13 : Nat) (z14 : Nat) (z15 : Nat) (z16 : Nat) (z17 : Nat) (z18 : Nat) (z19 : Nat) (z22 : Nat) (z23 : Nat) (z24 : Nat) (z25 : Nat) (z26 : Nat) (z27 : Nat) (z28 : Nat) (z29 : Nat) (z30 : Nat) (z31 : Nat) (z32 : Nat) (z33 : Nat) (z36 : Nat) (z37 : Nat) (z38 : Nat) (z39 : Nat) (z40 : Nat) (z41 : Nat) (z42 : Nat) (z43 : Nat) (z44 : Nat) (z45 : Nat) (z46 : Nat) (z47 : Nat) (z48 : Nat) (z55 : Nat) (z56 : Nat) (z59 : Nat) (z60 : Nat) (z61 : Nat) (va : Int64) (vb : Int64) (vc : Int64) (n : Nat) (f : Nat → Int32) (hn : n ≤ 1000) (F : Nat) (hF : kad vc 8 (kad vb 4 n) = F) (hC : kC γ p s m [.ref z, .long va, .long vb, .long vc].toArray c cX12_feed 11 RX12 A) (hr : meth.sig.returnType = (some .int)) (hlocks : meth.locks = false) (H : Heap) (locs : List Loc) (hw : kW γ A [(z, .inr (11, [.int 0, .int (nI n), .ref z2, .int 0, .int 0, .int 0, .int 0, .long 0, .int 0, .int 0, .ref z10, .ref z11, .ref z12, .ref z13, .ref z14, .ref z15, .ref z16, .ref z17, .ref z18, .ref z19, .int 0, .int 0, .ref z22, .ref z23, .ref z24, .ref z25, .ref z26, .ref z27, .ref z28, .ref z29, .ref z30, .ref z31, .ref z32, .ref z33, .int 0, .long 0, .ref z36, .ref z37, .ref z38, .ref z39, .ref z40, .ref z41, .ref z42, .ref z43, .ref z44, .ref z45, .ref z46, .ref z47, .ref z48, .int 0, .int 10, .int 0, .int 0, .int 0, .int 0, .ref z55, .ref z56, .int 0, .int 0, .ref z59, .ref z60, .ref z61, .int 0, .long 0])), (z2, .inl (γ.2.1 0, 1000, .inl f))] s H locs) (ls : Array Slot) (hl : lv_has ls 11 [(7, .int 12), (0, .ref z), (1, .long va), (3, .long vb), (5, .long vc)]) : W p l e ({ frames := 0, cells := 0, slots := 0, locals := 0 } : Room) s m [.ref z, .long va, .long vb, .long vc].toArray below meth c H locs 0 0 (MQ below (kQ γ A (fun r w1 => r = some (.int (nI F)) ∧ w1 = [])) [.ref z, .long va, .long vb, .long vc].toArray s 0 0 A) (F0 m 8 ls []) := by
  have hx := hC.1
  have hb := hC.2.1
  refine lv_iload hx hb dX12_feed_8 (lv_at hl 0 rfl) ?_
  refine lv_bipush (v := 24) hx hb dX12_feed_10 (by decide) ?_
  refine lv_icmp_ge (tgt := 120) hx hb dX12_feed_12 (by decide) (fun h => absurd h (by decide)) (fun _ => ?_)
  refine lv_iload hx hb dX12_feed_15 (lv_at hl 0 rfl) ?_
  refine lv_bipush (v := 8) hx hb dX12_feed_17 (by decide) ?_
  refine lv_icmp_ge (tgt := 26) hx hb dX12_feed_19 (by decide) (fun _ => ?_) (fun h => absurd (by decide) h)
  refine lv_iload hx hb dX12_feed_26 (lv_at hl 0 rfl) ?_
  refine lv_bipush (v := 16) hx hb dX12_feed_28 (by decide) ?_
  refine lv_icmp_ge (tgt := 37) hx hb dX12_feed_30 (by decide) (fun h => absurd h (by decide)) (fun _ => ?_)
  refine lv_lload_n hx hb dX12_feed_33 rfl (lv_at hl 3 rfl) ?_
  refine lv_goto (tgt := 39) hx hb dX12_feed_34 (by decide) ?_
  refine lv_lstore (lv' := [(8, .long vb), (7, .int 12), (0, .ref z), (1, .long va), (3, .long vb), (5, .long vc)]) hx hb dX12_feed_39 hl (by decide) rfl (fun ls hl => ?_)
  refine lv_lload hx hb dX12_feed_41 (lv_at hl 0 rfl) ?_
  refine lv_bipush (v := 56) hx hb dX12_feed_43 (by decide) ?_
  refine lv_bipush (v := 8) hx hb dX12_feed_45 (by decide) ?_
  refine lv_iload hx hb dX12_feed_47 (lv_at hl 1 rfl) ?_
  refine lv_bipush (v := 7) hx hb dX12_feed_49 (by decide) ?_
  refine lv_iand hx hb dX12_feed_51 ?_
  refine lv_topi (fun x_1575 ex_1575 => ?_)
  obtain rfl : x_1575 = 4 := ex_1575.trans (by decide)
  refine lv_imul hx hb dX12_feed_52 ?_
  refine lv_topi (fun x_1576 ex_1576 => ?_)
  obtain rfl : x_1576 = 32 := ex_1576.trans (by decide)
  refine lv_isub hx hb dX12_feed_53 ?_
  refine lv_topi (fun x_1577 ex_1577 => ?_)
  obtain rfl : x_1577 = 24 := ex_1577.trans (by decide)
  refine lv_lushr hx hb dX12_feed_54 rfl ?_
  refine lv_topl (fun x_1578 ex_1578 => ?_)
  refine k_ldc2 hC gw_1393 dX12_feed_55 ?_
  refine lv_land hx hb dX12_feed_58 ?_
  refine lv_topl (fun x_1579 ex_1579 => ?_)
  refine lv_l2i hx hb dX12_feed_59 rfl ?_
  refine lv_topi (fun x_1580 ex_1580 => ?_)
  refine lv_istore (lv' := [(10, .int x_1580), (8, .long vb), (7, .int 12), (0, .ref z), (1, .long va), (3, .long vb), (5, .long vc)]) hx hb dX12_feed_60 hl (by decide) rfl (fun ls hl => ?_)
  have hk : x_1580 = kby vb 24 := by rw [ex_1580, ex_1579, k_land, ex_1578]; rfl
  refine lv_aload_n hx hb dX12_feed_62 rfl (lv_at hl 3 rfl) ?_
  refine fg_RX12_148 hC hw 0 rfl rfl dX12_feed_63 ?_
  refine lv_sipush (v := 1000) hx hb dX12_feed_66 (by decide) ?_
  refine lv_icmp_ge (tgt := 114) hx hb dX12_feed_69 (by decide) (fun c69 => ?_) (fun c69 => ?_)
  · have hfull : ¬ n < 1000 := fun h9 => absurd c69 (nI_ge h9 (by decide))
    refine lv_iinc (v := 13) (lv' := [(7, .int 13), (10, .int x_1580), (8, .long vb), (0, .ref z), (1, .long va), (3, .long vb), (5, .long vc)]) hx hb dX12_feed_114 hl (k := 2) rfl (by decide) (by decide) rfl (fun ls hl => ?_)
    refine lv_goto (tgt := 8) hx hb dX12_feed_117 (by decide) ?_
    have hst : kst n (kby vb 24) = n := by rw [← hk]; exact (by first | exact kst_full hfull | exact kst_a c76 hlt | exact kst_b c83 c90 hlt | exact kst_lo c76 c83 | exact kst_hi c76 c90)
    exact mf_13 z z2 z10 z11 z12 z13 z14 z15 z16 z17 z18 z19 z22 z23 z24 z25 z26 z27 z28 z29 z30 z31 z32 z33 z36 z37 z38 z39 z40 z41 z42 z43 z44 z45 z46 z47 z48 z55 z56 z59 z60 z61 va vb vc n f (by omega) F (by have h9 : kad vc 8 (kad vb 3 (kst n (kby vb 24))) = F := hF; rw [hst] at h9; exact h9) hC hr hlocks _ _ (kW.sub hw [0, 1] rfl rfl) _ (lv_sub hl [0, 3, 4, 5, 6] rfl)
  · have hlt : n < 1000 := by rcases Nat.lt_or_ge n 1000 with h9 | h9; exact h9; exact absurd (nI_le h9 (by omega)) c69
    refine lv_iload hx hb dX12_feed_72 (lv_at hl 0 rfl) ?_
    refine lv_bipush (v := 10) hx hb dX12_feed_74 (by decide) ?_
    refine lv_icmp_eq (tgt := 93) hx hb dX12_feed_76 (by decide) (fun c76 => ?_) (fun c76 => ?_)
    · refine lv_aload_n hx hb dX12_feed_93 rfl (lv_at hl 3 rfl) ?_
      refine fg_RX12_7 hC hw 0 rfl rfl dX12_feed_94 ?_
      refine lv_aload_n hx hb dX12_feed_97 rfl (lv_at hl 3 rfl) ?_
      refine fg_RX12_148 hC hw 0 rfl rfl dX12_feed_98 ?_
      refine lv_iload hx hb dX12_feed_101 (lv_at hl 0 rfl) ?_
      refine k_iast hC hw 1 rfl (vp_in_nI hlt (by decide)) dX12_feed_103 (fun H locs hw => ?_)
      obtain ⟨f_1581, ef_1581⟩ : ∃ g, g = upd f ((nI n) : Int32).toNatClampNeg x_1580 := ⟨_, rfl⟩
      have hw : kW γ A [(z, .inr (11, [.int 0, .int (nI n), .ref z2, .int 0, .int 0, .int 0, .int 0, .long 0, .int 0, .int 0, .ref z10, .ref z11, .ref z12, .ref z13, .ref z14, .ref z15, .ref z16, .ref z17, .ref z18, .ref z19, .int 0, .int 0, .ref z22, .ref z23, .ref z24, .ref z25, .ref z26, .ref z27, .ref z28, .ref z29, .ref z30, .ref z31, .ref z32, .ref z33, .int 0, .long 0, .ref z36, .ref z37, .ref z38, .ref z39, .ref z40, .ref z41, .ref z42, .ref z43, .ref z44, .ref z45, .ref z46, .ref z47, .ref z48, .int 0, .int 10, .int 0, .int 0, .int 0, .int 0, .ref z55, .ref z56, .int 0, .int 0, .ref z59, .ref z60, .ref z61, .int 0, .long 0])), (z2, .inl (γ.2.1 0, 1000, .inl f_1581))] s H locs := by rw [ef_1581]; exact hw
      refine lv_aload_n hx hb dX12_feed_104 rfl (lv_at hl 3 rfl) ?_
      refine lv_dup hx hb dX12_feed_105 rfl ?_
      refine fg_RX12_148 hC hw 0 rfl rfl dX12_feed_106 ?_
      refine lv_iconst (v := 1) hx hb dX12_feed_109 (by decide) ?_
      refine lv_iadd hx hb dX12_feed_110 ?_
      refine lv_topi (fun x_1582 ex_1582 => ?_)
      obtain rfl : x_1582 = (nI (n + 1)) := ex_1582.trans (nI_1 n)
      refine fs_RX12_148 hC hw 0 rfl rfl rfl (Nat.le_of_ble_eq_true rfl) dX12_feed_111 (fun H locs hw => ?_)
      have hw : kW γ A [(z, .inr (11, [.int 0, .int (nI (n + 1)), .ref z2, .int 0, .int 0, .int 0, .int 0, .long 0, .int 0, .int 0, .ref z10, .ref z11, .ref z12, .ref z13, .ref z14, .ref z15, .ref z16, .ref z17, .ref z18, .ref z19, .int 0, .int 0, .ref z22, .ref z23, .ref z24, .ref z25, .ref z26, .ref z27, .ref z28, .ref z29, .ref z30, .ref z31, .ref z32, .ref z33, .int 0, .long 0, .ref z36, .ref z37, .ref z38, .ref z39, .ref z40, .ref z41, .ref z42, .ref z43, .ref z44, .ref z45, .ref z46, .ref z47, .ref z48, .int 0, .int 10, .int 0, .int 0, .int 0, .int 0, .ref z55, .ref z56, .int 0, .int 0, .ref z59, .ref z60, .ref z61, .int 0, .long 0])), (z2, .inl (γ.2.1 0, 1000, .inl f_1581))] s H locs := hw
      refine lv_iinc (v := 13) (lv' := [(7, .int 13), (10, .int x_1580), (8, .long vb), (0, .ref z), (1, .long va), (3, .long vb), (5, .long vc)]) hx hb dX12_feed_114 hl (k := 2) rfl (by decide) (by decide) rfl (fun ls hl => ?_)
      refine lv_goto (tgt := 8) hx hb dX12_feed_117 (by decide) ?_
      have hst : kst n (kby vb 24) = (n + 1) := by rw [← hk]; exact (by first | exact kst_full hfull | exact kst_a c76 hlt | exact kst_b c83 c90 hlt | exact kst_lo c76 c83 | exact kst_hi c76 c90)
      exact mf_13 z z2 z10 z11 z12 z13 z14 z15 z16 z17 z18 z19 z22 z23 z24 z25 z26 z27 z28 z29 z30 z31 z32 z33 z36 z37 z38 z39 z40 z41 z42 z43 z44 z45 z46 z47 z48 z55 z56 z59 z60 z61 va vb vc (n + 1) f_1581 (by omega) F (by have h9 : kad vc 8 (kad vb 3 (kst n (kby vb 24))) = F := hF; rw [hst] at h9; exact h9) hC hr hlocks _ _ (kW.sub hw [0, 1] rfl rfl) _ (lv_sub hl [0, 3, 4, 5, 6] rfl)
    · refine lv_iload hx hb dX12_feed_79 (lv_at hl 0 rfl) ?_
      refine lv_bipush (v := 32) hx hb dX12_feed_81 (by decide) ?_
      refine lv_icmp_lt (tgt := 114) hx hb dX12_feed_83 (by decide) (fun c83 => ?_) (fun c83 => ?_)
      · refine lv_iinc (v := 13) (lv' := [(7, .int 13), (10, .int x_1580), (8, .long vb), (0, .ref z), (1, .long va), (3, .long vb), (5, .long vc)]) hx hb dX12_feed_114 hl (k := 2) rfl (by decide) (by decide) rfl (fun ls hl => ?_)
        refine lv_goto (tgt := 8) hx hb dX12_feed_117 (by decide) ?_
        have hst : kst n (kby vb 24) = n := by rw [← hk]; exact (by first | exact kst_full hfull | exact kst_a c76 hlt | exact kst_b c83 c90 hlt | exact kst_lo c76 c83 | exact kst_hi c76 c90)
        exact mf_13 z z2 z10 z11 z12 z13 z14 z15 z16 z17 z18 z19 z22 z23 z24 z25 z26 z27 z28 z29 z30 z31 z32 z33 z36 z37 z38 z39 z40 z41 z42 z43 z44 z45 z46 z47 z48 z55 z56 z59 z60 z61 va vb vc n f (by omega) F (by have h9 : kad vc 8 (kad vb 3 (kst n (kby vb 24))) = F := hF; rw [hst] at h9; exact h9) hC hr hlocks _ _ (kW.sub hw [0, 1] rfl rfl) _ (lv_sub hl [0, 3, 4, 5, 6] rfl)
      · refine lv_iload hx hb dX12_feed_86 (lv_at hl 0 rfl) ?_
        refine lv_bipush (v := 126) hx hb dX12_feed_88 (by decide) ?_
        refine lv_icmp_gt (tgt := 114) hx hb dX12_feed_90 (by decide) (fun c90 => ?_) (fun c90 => ?_)
        · refine lv_iinc (v := 13) (lv' := [(7, .int 13), (10, .int x_1580), (8, .long vb), (0, .ref z), (1, .long va), (3, .long vb), (5, .long vc)]) hx hb dX12_feed_114 hl (k := 2) rfl (by decide) (by decide) rfl (fun ls hl => ?_)
          refine lv_goto (tgt := 8) hx hb dX12_feed_117 (by decide) ?_
          have hst : kst n (kby vb 24) = n := by rw [← hk]; exact (by first | exact kst_full hfull | exact kst_a c76 hlt | exact kst_b c83 c90 hlt | exact kst_lo c76 c83 | exact kst_hi c76 c90)
          exact mf_13 z z2 z10 z11 z12 z13 z14 z15 z16 z17 z18 z19 z22 z23 z24 z25 z26 z27 z28 z29 z30 z31 z32 z33 z36 z37 z38 z39 z40 z41 z42 z43 z44 z45 z46 z47 z48 z55 z56 z59 z60 z61 va vb vc n f (by omega) F (by have h9 : kad vc 8 (kad vb 3 (kst n (kby vb 24))) = F := hF; rw [hst] at h9; exact h9) hC hr hlocks _ _ (kW.sub hw [0, 1] rfl rfl) _ (lv_sub hl [0, 3, 4, 5, 6] rfl)
        · refine lv_aload_n hx hb dX12_feed_93 rfl (lv_at hl 3 rfl) ?_
          refine fg_RX12_7 hC hw 0 rfl rfl dX12_feed_94 ?_
          refine lv_aload_n hx hb dX12_feed_97 rfl (lv_at hl 3 rfl) ?_
          refine fg_RX12_148 hC hw 0 rfl rfl dX12_feed_98 ?_
          refine lv_iload hx hb dX12_feed_101 (lv_at hl 0 rfl) ?_
          refine k_iast hC hw 1 rfl (vp_in_nI hlt (by decide)) dX12_feed_103 (fun H locs hw => ?_)
          obtain ⟨f_1583, ef_1583⟩ : ∃ g, g = upd f ((nI n) : Int32).toNatClampNeg x_1580 := ⟨_, rfl⟩
          have hw : kW γ A [(z, .inr (11, [.int 0, .int (nI n), .ref z2, .int 0, .int 0, .int 0, .int 0, .long 0, .int 0, .int 0, .ref z10, .ref z11, .ref z12, .ref z13, .ref z14, .ref z15, .ref z16, .ref z17, .ref z18, .ref z19, .int 0, .int 0, .ref z22, .ref z23, .ref z24, .ref z25, .ref z26, .ref z27, .ref z28, .ref z29, .ref z30, .ref z31, .ref z32, .ref z33, .int 0, .long 0, .ref z36, .ref z37, .ref z38, .ref z39, .ref z40, .ref z41, .ref z42, .ref z43, .ref z44, .ref z45, .ref z46, .ref z47, .ref z48, .int 0, .int 10, .int 0, .int 0, .int 0, .int 0, .ref z55, .ref z56, .int 0, .int 0, .ref z59, .ref z60, .ref z61, .int 0, .long 0])), (z2, .inl (γ.2.1 0, 1000, .inl f_1583))] s H locs := by rw [ef_1583]; exact hw
          refine lv_aload_n hx hb dX12_feed_104 rfl (lv_at hl 3 rfl) ?_
          refine lv_dup hx hb dX12_feed_105 rfl ?_
          refine fg_RX12_148 hC hw 0 rfl rfl dX12_feed_106 ?_
          refine lv_iconst (v := 1) hx hb dX12_feed_109 (by decide) ?_
          refine lv_iadd hx hb dX12_feed_110 ?_
          refine lv_topi (fun x_1584 ex_1584 => ?_)
          obtain rfl : x_1584 = (nI (n + 1)) := ex_1584.trans (nI_1 n)
          refine fs_RX12_148 hC hw 0 rfl rfl rfl (Nat.le_of_ble_eq_true rfl) dX12_feed_111 (fun H locs hw => ?_)
          have hw : kW γ A [(z, .inr (11, [.int 0, .int (nI (n + 1)), .ref z2, .int 0, .int 0, .int 0, .int 0, .long 0, .int 0, .int 0, .ref z10, .ref z11, .ref z12, .ref z13, .ref z14, .ref z15, .ref z16, .ref z17, .ref z18, .ref z19, .int 0, .int 0, .ref z22, .ref z23, .ref z24, .ref z25, .ref z26, .ref z27, .ref z28, .ref z29, .ref z30, .ref z31, .ref z32, .ref z33, .int 0, .long 0, .ref z36, .ref z37, .ref z38, .ref z39, .ref z40, .ref z41, .ref z42, .ref z43, .ref z44, .ref z45, .ref z46, .ref z47, .ref z48, .int 0, .int 10, .int 0, .int 0, .int 0, .int 0, .ref z55, .ref z56, .int 0, .int 0, .ref z59, .ref z60, .ref z61, .int 0, .long 0])), (z2, .inl (γ.2.1 0, 1000, .inl f_1583))] s H locs := hw
          refine lv_iinc (v := 13) (lv' := [(7, .int 13), (10, .int x_1580), (8, .long vb), (0, .ref z), (1, .long va), (3, .long vb), (5, .long vc)]) hx hb dX12_feed_114 hl (k := 2) rfl (by decide) (by decide) rfl (fun ls hl => ?_)
          refine lv_goto (tgt := 8) hx hb dX12_feed_117 (by decide) ?_
          have hst : kst n (kby vb 24) = (n + 1) := by rw [← hk]; exact (by first | exact kst_full hfull | exact kst_a c76 hlt | exact kst_b c83 c90 hlt | exact kst_lo c76 c83 | exact kst_hi c76 c90)
          exact mf_13 z z2 z10 z11 z12 z13 z14 z15 z16 z17 z18 z19 z22 z23 z24 z25 z26 z27 z28 z29 z30 z31 z32 z33 z36 z37 z38 z39 z40 z41 z42 z43 z44 z45 z46 z47 z48 z55 z56 z59 z60 z61 va vb vc (n + 1) f_1583 (by omega) F (by have h9 : kad vc 8 (kad vb 3 (kst n (kby vb 24))) = F := hF; rw [hst] at h9; exact h9) hC hr hlocks _ _ (kW.sub hw [0, 1] rfl rfl) _ (lv_sub hl [0, 3, 4, 5, 6] rfl)

set_option maxHeartbeats 4000000 in
set_option maxRecDepth 100000 in
theorem mf_11 {γ : kΓ} {l : Launch} {p : Program} {e : Env} {s : State} {m : MethodId} {below : List Frame} {meth : Method} {c : Code} {A : Nat → Prop} (z : Nat) (z2 : Nat) (z10 : Nat) (z11 : Nat) (z12 : Nat) (z13 : Nat) (z14 : Nat) (z15 : Nat) (z16 : Nat) (z17 : Nat) (z18 : Nat) (z19 : Nat) (z22 : Nat) (z23 : Nat) (z24 : Nat) (z25 : Nat) (z26 : Nat) (z27 : Nat) (z28 : Nat) (z29 : Nat) (z30 : Nat) (z31 : Nat) (z32 : Nat) (z33 : Nat) (z36 : Nat) (z37 : Nat) (z38 : Nat) (z39 : Nat) (z40 : Nat) (z41 : Nat) (z42 : Nat) (z43 : Nat) (z44 : Nat) (z45 : Nat) (z46 : Nat) (z47 : Nat) (z48 : Nat) (z55 : Nat) (z56 : Nat) (z59 : Nat) (z60 : Nat) (z61 : Nat) (va : Int64) (vb : Int64) (vc : Int64) (n : Nat) (f : Nat → Int32) (hn : n ≤ 1000) (F : Nat) (hF : kad vc 8 (kad vb 5 n) = F) (hC : kC γ p s m [.ref z, .long va, .long vb, .long vc].toArray c cX12_feed 11 RX12 A) (hr : meth.sig.returnType = (some .int)) (hlocks : meth.locks = false) (H : Heap) (locs : List Loc) (hw : kW γ A [(z, .inr (11, [.int 0, .int (nI n), .ref z2, .int 0, .int 0, .int 0, .int 0, .long 0, .int 0, .int 0, .ref z10, .ref z11, .ref z12, .ref z13, .ref z14, .ref z15, .ref z16, .ref z17, .ref z18, .ref z19, .int 0, .int 0, .ref z22, .ref z23, .ref z24, .ref z25, .ref z26, .ref z27, .ref z28, .ref z29, .ref z30, .ref z31, .ref z32, .ref z33, .int 0, .long 0, .ref z36, .ref z37, .ref z38, .ref z39, .ref z40, .ref z41, .ref z42, .ref z43, .ref z44, .ref z45, .ref z46, .ref z47, .ref z48, .int 0, .int 10, .int 0, .int 0, .int 0, .int 0, .ref z55, .ref z56, .int 0, .int 0, .ref z59, .ref z60, .ref z61, .int 0, .long 0])), (z2, .inl (γ.2.1 0, 1000, .inl f))] s H locs) (ls : Array Slot) (hl : lv_has ls 11 [(7, .int 11), (0, .ref z), (1, .long va), (3, .long vb), (5, .long vc)]) : W p l e ({ frames := 0, cells := 0, slots := 0, locals := 0 } : Room) s m [.ref z, .long va, .long vb, .long vc].toArray below meth c H locs 0 0 (MQ below (kQ γ A (fun r w1 => r = some (.int (nI F)) ∧ w1 = [])) [.ref z, .long va, .long vb, .long vc].toArray s 0 0 A) (F0 m 8 ls []) := by
  have hx := hC.1
  have hb := hC.2.1
  refine lv_iload hx hb dX12_feed_8 (lv_at hl 0 rfl) ?_
  refine lv_bipush (v := 24) hx hb dX12_feed_10 (by decide) ?_
  refine lv_icmp_ge (tgt := 120) hx hb dX12_feed_12 (by decide) (fun h => absurd h (by decide)) (fun _ => ?_)
  refine lv_iload hx hb dX12_feed_15 (lv_at hl 0 rfl) ?_
  refine lv_bipush (v := 8) hx hb dX12_feed_17 (by decide) ?_
  refine lv_icmp_ge (tgt := 26) hx hb dX12_feed_19 (by decide) (fun _ => ?_) (fun h => absurd (by decide) h)
  refine lv_iload hx hb dX12_feed_26 (lv_at hl 0 rfl) ?_
  refine lv_bipush (v := 16) hx hb dX12_feed_28 (by decide) ?_
  refine lv_icmp_ge (tgt := 37) hx hb dX12_feed_30 (by decide) (fun h => absurd h (by decide)) (fun _ => ?_)
  refine lv_lload_n hx hb dX12_feed_33 rfl (lv_at hl 3 rfl) ?_
  refine lv_goto (tgt := 39) hx hb dX12_feed_34 (by decide) ?_
  refine lv_lstore (lv' := [(8, .long vb), (7, .int 11), (0, .ref z), (1, .long va), (3, .long vb), (5, .long vc)]) hx hb dX12_feed_39 hl (by decide) rfl (fun ls hl => ?_)
  refine lv_lload hx hb dX12_feed_41 (lv_at hl 0 rfl) ?_
  refine lv_bipush (v := 56) hx hb dX12_feed_43 (by decide) ?_
  refine lv_bipush (v := 8) hx hb dX12_feed_45 (by decide) ?_
  refine lv_iload hx hb dX12_feed_47 (lv_at hl 1 rfl) ?_
  refine lv_bipush (v := 7) hx hb dX12_feed_49 (by decide) ?_
  refine lv_iand hx hb dX12_feed_51 ?_
  refine lv_topi (fun x_1585 ex_1585 => ?_)
  obtain rfl : x_1585 = 3 := ex_1585.trans (by decide)
  refine lv_imul hx hb dX12_feed_52 ?_
  refine lv_topi (fun x_1586 ex_1586 => ?_)
  obtain rfl : x_1586 = 24 := ex_1586.trans (by decide)
  refine lv_isub hx hb dX12_feed_53 ?_
  refine lv_topi (fun x_1587 ex_1587 => ?_)
  obtain rfl : x_1587 = 32 := ex_1587.trans (by decide)
  refine lv_lushr hx hb dX12_feed_54 rfl ?_
  refine lv_topl (fun x_1588 ex_1588 => ?_)
  refine k_ldc2 hC gw_1393 dX12_feed_55 ?_
  refine lv_land hx hb dX12_feed_58 ?_
  refine lv_topl (fun x_1589 ex_1589 => ?_)
  refine lv_l2i hx hb dX12_feed_59 rfl ?_
  refine lv_topi (fun x_1590 ex_1590 => ?_)
  refine lv_istore (lv' := [(10, .int x_1590), (8, .long vb), (7, .int 11), (0, .ref z), (1, .long va), (3, .long vb), (5, .long vc)]) hx hb dX12_feed_60 hl (by decide) rfl (fun ls hl => ?_)
  have hk : x_1590 = kby vb 32 := by rw [ex_1590, ex_1589, k_land, ex_1588]; rfl
  refine lv_aload_n hx hb dX12_feed_62 rfl (lv_at hl 3 rfl) ?_
  refine fg_RX12_148 hC hw 0 rfl rfl dX12_feed_63 ?_
  refine lv_sipush (v := 1000) hx hb dX12_feed_66 (by decide) ?_
  refine lv_icmp_ge (tgt := 114) hx hb dX12_feed_69 (by decide) (fun c69 => ?_) (fun c69 => ?_)
  · have hfull : ¬ n < 1000 := fun h9 => absurd c69 (nI_ge h9 (by decide))
    refine lv_iinc (v := 12) (lv' := [(7, .int 12), (10, .int x_1590), (8, .long vb), (0, .ref z), (1, .long va), (3, .long vb), (5, .long vc)]) hx hb dX12_feed_114 hl (k := 2) rfl (by decide) (by decide) rfl (fun ls hl => ?_)
    refine lv_goto (tgt := 8) hx hb dX12_feed_117 (by decide) ?_
    have hst : kst n (kby vb 32) = n := by rw [← hk]; exact (by first | exact kst_full hfull | exact kst_a c76 hlt | exact kst_b c83 c90 hlt | exact kst_lo c76 c83 | exact kst_hi c76 c90)
    exact mf_12 z z2 z10 z11 z12 z13 z14 z15 z16 z17 z18 z19 z22 z23 z24 z25 z26 z27 z28 z29 z30 z31 z32 z33 z36 z37 z38 z39 z40 z41 z42 z43 z44 z45 z46 z47 z48 z55 z56 z59 z60 z61 va vb vc n f (by omega) F (by have h9 : kad vc 8 (kad vb 4 (kst n (kby vb 32))) = F := hF; rw [hst] at h9; exact h9) hC hr hlocks _ _ (kW.sub hw [0, 1] rfl rfl) _ (lv_sub hl [0, 3, 4, 5, 6] rfl)
  · have hlt : n < 1000 := by rcases Nat.lt_or_ge n 1000 with h9 | h9; exact h9; exact absurd (nI_le h9 (by omega)) c69
    refine lv_iload hx hb dX12_feed_72 (lv_at hl 0 rfl) ?_
    refine lv_bipush (v := 10) hx hb dX12_feed_74 (by decide) ?_
    refine lv_icmp_eq (tgt := 93) hx hb dX12_feed_76 (by decide) (fun c76 => ?_) (fun c76 => ?_)
    · refine lv_aload_n hx hb dX12_feed_93 rfl (lv_at hl 3 rfl) ?_
      refine fg_RX12_7 hC hw 0 rfl rfl dX12_feed_94 ?_
      refine lv_aload_n hx hb dX12_feed_97 rfl (lv_at hl 3 rfl) ?_
      refine fg_RX12_148 hC hw 0 rfl rfl dX12_feed_98 ?_
      refine lv_iload hx hb dX12_feed_101 (lv_at hl 0 rfl) ?_
      refine k_iast hC hw 1 rfl (vp_in_nI hlt (by decide)) dX12_feed_103 (fun H locs hw => ?_)
      obtain ⟨f_1591, ef_1591⟩ : ∃ g, g = upd f ((nI n) : Int32).toNatClampNeg x_1590 := ⟨_, rfl⟩
      have hw : kW γ A [(z, .inr (11, [.int 0, .int (nI n), .ref z2, .int 0, .int 0, .int 0, .int 0, .long 0, .int 0, .int 0, .ref z10, .ref z11, .ref z12, .ref z13, .ref z14, .ref z15, .ref z16, .ref z17, .ref z18, .ref z19, .int 0, .int 0, .ref z22, .ref z23, .ref z24, .ref z25, .ref z26, .ref z27, .ref z28, .ref z29, .ref z30, .ref z31, .ref z32, .ref z33, .int 0, .long 0, .ref z36, .ref z37, .ref z38, .ref z39, .ref z40, .ref z41, .ref z42, .ref z43, .ref z44, .ref z45, .ref z46, .ref z47, .ref z48, .int 0, .int 10, .int 0, .int 0, .int 0, .int 0, .ref z55, .ref z56, .int 0, .int 0, .ref z59, .ref z60, .ref z61, .int 0, .long 0])), (z2, .inl (γ.2.1 0, 1000, .inl f_1591))] s H locs := by rw [ef_1591]; exact hw
      refine lv_aload_n hx hb dX12_feed_104 rfl (lv_at hl 3 rfl) ?_
      refine lv_dup hx hb dX12_feed_105 rfl ?_
      refine fg_RX12_148 hC hw 0 rfl rfl dX12_feed_106 ?_
      refine lv_iconst (v := 1) hx hb dX12_feed_109 (by decide) ?_
      refine lv_iadd hx hb dX12_feed_110 ?_
      refine lv_topi (fun x_1592 ex_1592 => ?_)
      obtain rfl : x_1592 = (nI (n + 1)) := ex_1592.trans (nI_1 n)
      refine fs_RX12_148 hC hw 0 rfl rfl rfl (Nat.le_of_ble_eq_true rfl) dX12_feed_111 (fun H locs hw => ?_)
      have hw : kW γ A [(z, .inr (11, [.int 0, .int (nI (n + 1)), .ref z2, .int 0, .int 0, .int 0, .int 0, .long 0, .int 0, .int 0, .ref z10, .ref z11, .ref z12, .ref z13, .ref z14, .ref z15, .ref z16, .ref z17, .ref z18, .ref z19, .int 0, .int 0, .ref z22, .ref z23, .ref z24, .ref z25, .ref z26, .ref z27, .ref z28, .ref z29, .ref z30, .ref z31, .ref z32, .ref z33, .int 0, .long 0, .ref z36, .ref z37, .ref z38, .ref z39, .ref z40, .ref z41, .ref z42, .ref z43, .ref z44, .ref z45, .ref z46, .ref z47, .ref z48, .int 0, .int 10, .int 0, .int 0, .int 0, .int 0, .ref z55, .ref z56, .int 0, .int 0, .ref z59, .ref z60, .ref z61, .int 0, .long 0])), (z2, .inl (γ.2.1 0, 1000, .inl f_1591))] s H locs := hw
      refine lv_iinc (v := 12) (lv' := [(7, .int 12), (10, .int x_1590), (8, .long vb), (0, .ref z), (1, .long va), (3, .long vb), (5, .long vc)]) hx hb dX12_feed_114 hl (k := 2) rfl (by decide) (by decide) rfl (fun ls hl => ?_)
      refine lv_goto (tgt := 8) hx hb dX12_feed_117 (by decide) ?_
      have hst : kst n (kby vb 32) = (n + 1) := by rw [← hk]; exact (by first | exact kst_full hfull | exact kst_a c76 hlt | exact kst_b c83 c90 hlt | exact kst_lo c76 c83 | exact kst_hi c76 c90)
      exact mf_12 z z2 z10 z11 z12 z13 z14 z15 z16 z17 z18 z19 z22 z23 z24 z25 z26 z27 z28 z29 z30 z31 z32 z33 z36 z37 z38 z39 z40 z41 z42 z43 z44 z45 z46 z47 z48 z55 z56 z59 z60 z61 va vb vc (n + 1) f_1591 (by omega) F (by have h9 : kad vc 8 (kad vb 4 (kst n (kby vb 32))) = F := hF; rw [hst] at h9; exact h9) hC hr hlocks _ _ (kW.sub hw [0, 1] rfl rfl) _ (lv_sub hl [0, 3, 4, 5, 6] rfl)
    · refine lv_iload hx hb dX12_feed_79 (lv_at hl 0 rfl) ?_
      refine lv_bipush (v := 32) hx hb dX12_feed_81 (by decide) ?_
      refine lv_icmp_lt (tgt := 114) hx hb dX12_feed_83 (by decide) (fun c83 => ?_) (fun c83 => ?_)
      · refine lv_iinc (v := 12) (lv' := [(7, .int 12), (10, .int x_1590), (8, .long vb), (0, .ref z), (1, .long va), (3, .long vb), (5, .long vc)]) hx hb dX12_feed_114 hl (k := 2) rfl (by decide) (by decide) rfl (fun ls hl => ?_)
        refine lv_goto (tgt := 8) hx hb dX12_feed_117 (by decide) ?_
        have hst : kst n (kby vb 32) = n := by rw [← hk]; exact (by first | exact kst_full hfull | exact kst_a c76 hlt | exact kst_b c83 c90 hlt | exact kst_lo c76 c83 | exact kst_hi c76 c90)
        exact mf_12 z z2 z10 z11 z12 z13 z14 z15 z16 z17 z18 z19 z22 z23 z24 z25 z26 z27 z28 z29 z30 z31 z32 z33 z36 z37 z38 z39 z40 z41 z42 z43 z44 z45 z46 z47 z48 z55 z56 z59 z60 z61 va vb vc n f (by omega) F (by have h9 : kad vc 8 (kad vb 4 (kst n (kby vb 32))) = F := hF; rw [hst] at h9; exact h9) hC hr hlocks _ _ (kW.sub hw [0, 1] rfl rfl) _ (lv_sub hl [0, 3, 4, 5, 6] rfl)
      · refine lv_iload hx hb dX12_feed_86 (lv_at hl 0 rfl) ?_
        refine lv_bipush (v := 126) hx hb dX12_feed_88 (by decide) ?_
        refine lv_icmp_gt (tgt := 114) hx hb dX12_feed_90 (by decide) (fun c90 => ?_) (fun c90 => ?_)
        · refine lv_iinc (v := 12) (lv' := [(7, .int 12), (10, .int x_1590), (8, .long vb), (0, .ref z), (1, .long va), (3, .long vb), (5, .long vc)]) hx hb dX12_feed_114 hl (k := 2) rfl (by decide) (by decide) rfl (fun ls hl => ?_)
          refine lv_goto (tgt := 8) hx hb dX12_feed_117 (by decide) ?_
          have hst : kst n (kby vb 32) = n := by rw [← hk]; exact (by first | exact kst_full hfull | exact kst_a c76 hlt | exact kst_b c83 c90 hlt | exact kst_lo c76 c83 | exact kst_hi c76 c90)
          exact mf_12 z z2 z10 z11 z12 z13 z14 z15 z16 z17 z18 z19 z22 z23 z24 z25 z26 z27 z28 z29 z30 z31 z32 z33 z36 z37 z38 z39 z40 z41 z42 z43 z44 z45 z46 z47 z48 z55 z56 z59 z60 z61 va vb vc n f (by omega) F (by have h9 : kad vc 8 (kad vb 4 (kst n (kby vb 32))) = F := hF; rw [hst] at h9; exact h9) hC hr hlocks _ _ (kW.sub hw [0, 1] rfl rfl) _ (lv_sub hl [0, 3, 4, 5, 6] rfl)
        · refine lv_aload_n hx hb dX12_feed_93 rfl (lv_at hl 3 rfl) ?_
          refine fg_RX12_7 hC hw 0 rfl rfl dX12_feed_94 ?_
          refine lv_aload_n hx hb dX12_feed_97 rfl (lv_at hl 3 rfl) ?_
          refine fg_RX12_148 hC hw 0 rfl rfl dX12_feed_98 ?_
          refine lv_iload hx hb dX12_feed_101 (lv_at hl 0 rfl) ?_
          refine k_iast hC hw 1 rfl (vp_in_nI hlt (by decide)) dX12_feed_103 (fun H locs hw => ?_)
          obtain ⟨f_1593, ef_1593⟩ : ∃ g, g = upd f ((nI n) : Int32).toNatClampNeg x_1590 := ⟨_, rfl⟩
          have hw : kW γ A [(z, .inr (11, [.int 0, .int (nI n), .ref z2, .int 0, .int 0, .int 0, .int 0, .long 0, .int 0, .int 0, .ref z10, .ref z11, .ref z12, .ref z13, .ref z14, .ref z15, .ref z16, .ref z17, .ref z18, .ref z19, .int 0, .int 0, .ref z22, .ref z23, .ref z24, .ref z25, .ref z26, .ref z27, .ref z28, .ref z29, .ref z30, .ref z31, .ref z32, .ref z33, .int 0, .long 0, .ref z36, .ref z37, .ref z38, .ref z39, .ref z40, .ref z41, .ref z42, .ref z43, .ref z44, .ref z45, .ref z46, .ref z47, .ref z48, .int 0, .int 10, .int 0, .int 0, .int 0, .int 0, .ref z55, .ref z56, .int 0, .int 0, .ref z59, .ref z60, .ref z61, .int 0, .long 0])), (z2, .inl (γ.2.1 0, 1000, .inl f_1593))] s H locs := by rw [ef_1593]; exact hw
          refine lv_aload_n hx hb dX12_feed_104 rfl (lv_at hl 3 rfl) ?_
          refine lv_dup hx hb dX12_feed_105 rfl ?_
          refine fg_RX12_148 hC hw 0 rfl rfl dX12_feed_106 ?_
          refine lv_iconst (v := 1) hx hb dX12_feed_109 (by decide) ?_
          refine lv_iadd hx hb dX12_feed_110 ?_
          refine lv_topi (fun x_1594 ex_1594 => ?_)
          obtain rfl : x_1594 = (nI (n + 1)) := ex_1594.trans (nI_1 n)
          refine fs_RX12_148 hC hw 0 rfl rfl rfl (Nat.le_of_ble_eq_true rfl) dX12_feed_111 (fun H locs hw => ?_)
          have hw : kW γ A [(z, .inr (11, [.int 0, .int (nI (n + 1)), .ref z2, .int 0, .int 0, .int 0, .int 0, .long 0, .int 0, .int 0, .ref z10, .ref z11, .ref z12, .ref z13, .ref z14, .ref z15, .ref z16, .ref z17, .ref z18, .ref z19, .int 0, .int 0, .ref z22, .ref z23, .ref z24, .ref z25, .ref z26, .ref z27, .ref z28, .ref z29, .ref z30, .ref z31, .ref z32, .ref z33, .int 0, .long 0, .ref z36, .ref z37, .ref z38, .ref z39, .ref z40, .ref z41, .ref z42, .ref z43, .ref z44, .ref z45, .ref z46, .ref z47, .ref z48, .int 0, .int 10, .int 0, .int 0, .int 0, .int 0, .ref z55, .ref z56, .int 0, .int 0, .ref z59, .ref z60, .ref z61, .int 0, .long 0])), (z2, .inl (γ.2.1 0, 1000, .inl f_1593))] s H locs := hw
          refine lv_iinc (v := 12) (lv' := [(7, .int 12), (10, .int x_1590), (8, .long vb), (0, .ref z), (1, .long va), (3, .long vb), (5, .long vc)]) hx hb dX12_feed_114 hl (k := 2) rfl (by decide) (by decide) rfl (fun ls hl => ?_)
          refine lv_goto (tgt := 8) hx hb dX12_feed_117 (by decide) ?_
          have hst : kst n (kby vb 32) = (n + 1) := by rw [← hk]; exact (by first | exact kst_full hfull | exact kst_a c76 hlt | exact kst_b c83 c90 hlt | exact kst_lo c76 c83 | exact kst_hi c76 c90)
          exact mf_12 z z2 z10 z11 z12 z13 z14 z15 z16 z17 z18 z19 z22 z23 z24 z25 z26 z27 z28 z29 z30 z31 z32 z33 z36 z37 z38 z39 z40 z41 z42 z43 z44 z45 z46 z47 z48 z55 z56 z59 z60 z61 va vb vc (n + 1) f_1593 (by omega) F (by have h9 : kad vc 8 (kad vb 4 (kst n (kby vb 32))) = F := hF; rw [hst] at h9; exact h9) hC hr hlocks _ _ (kW.sub hw [0, 1] rfl rfl) _ (lv_sub hl [0, 3, 4, 5, 6] rfl)

set_option maxHeartbeats 4000000 in
set_option maxRecDepth 100000 in
theorem mf_10 {γ : kΓ} {l : Launch} {p : Program} {e : Env} {s : State} {m : MethodId} {below : List Frame} {meth : Method} {c : Code} {A : Nat → Prop} (z : Nat) (z2 : Nat) (z10 : Nat) (z11 : Nat) (z12 : Nat) (z13 : Nat) (z14 : Nat) (z15 : Nat) (z16 : Nat) (z17 : Nat) (z18 : Nat) (z19 : Nat) (z22 : Nat) (z23 : Nat) (z24 : Nat) (z25 : Nat) (z26 : Nat) (z27 : Nat) (z28 : Nat) (z29 : Nat) (z30 : Nat) (z31 : Nat) (z32 : Nat) (z33 : Nat) (z36 : Nat) (z37 : Nat) (z38 : Nat) (z39 : Nat) (z40 : Nat) (z41 : Nat) (z42 : Nat) (z43 : Nat) (z44 : Nat) (z45 : Nat) (z46 : Nat) (z47 : Nat) (z48 : Nat) (z55 : Nat) (z56 : Nat) (z59 : Nat) (z60 : Nat) (z61 : Nat) (va : Int64) (vb : Int64) (vc : Int64) (n : Nat) (f : Nat → Int32) (hn : n ≤ 1000) (F : Nat) (hF : kad vc 8 (kad vb 6 n) = F) (hC : kC γ p s m [.ref z, .long va, .long vb, .long vc].toArray c cX12_feed 11 RX12 A) (hr : meth.sig.returnType = (some .int)) (hlocks : meth.locks = false) (H : Heap) (locs : List Loc) (hw : kW γ A [(z, .inr (11, [.int 0, .int (nI n), .ref z2, .int 0, .int 0, .int 0, .int 0, .long 0, .int 0, .int 0, .ref z10, .ref z11, .ref z12, .ref z13, .ref z14, .ref z15, .ref z16, .ref z17, .ref z18, .ref z19, .int 0, .int 0, .ref z22, .ref z23, .ref z24, .ref z25, .ref z26, .ref z27, .ref z28, .ref z29, .ref z30, .ref z31, .ref z32, .ref z33, .int 0, .long 0, .ref z36, .ref z37, .ref z38, .ref z39, .ref z40, .ref z41, .ref z42, .ref z43, .ref z44, .ref z45, .ref z46, .ref z47, .ref z48, .int 0, .int 10, .int 0, .int 0, .int 0, .int 0, .ref z55, .ref z56, .int 0, .int 0, .ref z59, .ref z60, .ref z61, .int 0, .long 0])), (z2, .inl (γ.2.1 0, 1000, .inl f))] s H locs) (ls : Array Slot) (hl : lv_has ls 11 [(7, .int 10), (0, .ref z), (1, .long va), (3, .long vb), (5, .long vc)]) : W p l e ({ frames := 0, cells := 0, slots := 0, locals := 0 } : Room) s m [.ref z, .long va, .long vb, .long vc].toArray below meth c H locs 0 0 (MQ below (kQ γ A (fun r w1 => r = some (.int (nI F)) ∧ w1 = [])) [.ref z, .long va, .long vb, .long vc].toArray s 0 0 A) (F0 m 8 ls []) := by
  have hx := hC.1
  have hb := hC.2.1
  refine lv_iload hx hb dX12_feed_8 (lv_at hl 0 rfl) ?_
  refine lv_bipush (v := 24) hx hb dX12_feed_10 (by decide) ?_
  refine lv_icmp_ge (tgt := 120) hx hb dX12_feed_12 (by decide) (fun h => absurd h (by decide)) (fun _ => ?_)
  refine lv_iload hx hb dX12_feed_15 (lv_at hl 0 rfl) ?_
  refine lv_bipush (v := 8) hx hb dX12_feed_17 (by decide) ?_
  refine lv_icmp_ge (tgt := 26) hx hb dX12_feed_19 (by decide) (fun _ => ?_) (fun h => absurd (by decide) h)
  refine lv_iload hx hb dX12_feed_26 (lv_at hl 0 rfl) ?_
  refine lv_bipush (v := 16) hx hb dX12_feed_28 (by decide) ?_
  refine lv_icmp_ge (tgt := 37) hx hb dX12_feed_30 (by decide) (fun h => absurd h (by decide)) (fun _ => ?_)
  refine lv_lload_n hx hb dX12_feed_33 rfl (lv_at hl 3 rfl) ?_
  refine lv_goto (tgt := 39) hx hb dX12_feed_34 (by decide) ?_
  refine lv_lstore (lv' := [(8, .long vb), (7, .int 10), (0, .ref z), (1, .long va), (3, .long vb), (5, .long vc)]) hx hb dX12_feed_39 hl (by decide) rfl (fun ls hl => ?_)
  refine lv_lload hx hb dX12_feed_41 (lv_at hl 0 rfl) ?_
  refine lv_bipush (v := 56) hx hb dX12_feed_43 (by decide) ?_
  refine lv_bipush (v := 8) hx hb dX12_feed_45 (by decide) ?_
  refine lv_iload hx hb dX12_feed_47 (lv_at hl 1 rfl) ?_
  refine lv_bipush (v := 7) hx hb dX12_feed_49 (by decide) ?_
  refine lv_iand hx hb dX12_feed_51 ?_
  refine lv_topi (fun x_1595 ex_1595 => ?_)
  obtain rfl : x_1595 = 2 := ex_1595.trans (by decide)
  refine lv_imul hx hb dX12_feed_52 ?_
  refine lv_topi (fun x_1596 ex_1596 => ?_)
  obtain rfl : x_1596 = 16 := ex_1596.trans (by decide)
  refine lv_isub hx hb dX12_feed_53 ?_
  refine lv_topi (fun x_1597 ex_1597 => ?_)
  obtain rfl : x_1597 = 40 := ex_1597.trans (by decide)
  refine lv_lushr hx hb dX12_feed_54 rfl ?_
  refine lv_topl (fun x_1598 ex_1598 => ?_)
  refine k_ldc2 hC gw_1393 dX12_feed_55 ?_
  refine lv_land hx hb dX12_feed_58 ?_
  refine lv_topl (fun x_1599 ex_1599 => ?_)
  refine lv_l2i hx hb dX12_feed_59 rfl ?_
  refine lv_topi (fun x_1600 ex_1600 => ?_)
  refine lv_istore (lv' := [(10, .int x_1600), (8, .long vb), (7, .int 10), (0, .ref z), (1, .long va), (3, .long vb), (5, .long vc)]) hx hb dX12_feed_60 hl (by decide) rfl (fun ls hl => ?_)
  have hk : x_1600 = kby vb 40 := by rw [ex_1600, ex_1599, k_land, ex_1598]; rfl
  refine lv_aload_n hx hb dX12_feed_62 rfl (lv_at hl 3 rfl) ?_
  refine fg_RX12_148 hC hw 0 rfl rfl dX12_feed_63 ?_
  refine lv_sipush (v := 1000) hx hb dX12_feed_66 (by decide) ?_
  refine lv_icmp_ge (tgt := 114) hx hb dX12_feed_69 (by decide) (fun c69 => ?_) (fun c69 => ?_)
  · have hfull : ¬ n < 1000 := fun h9 => absurd c69 (nI_ge h9 (by decide))
    refine lv_iinc (v := 11) (lv' := [(7, .int 11), (10, .int x_1600), (8, .long vb), (0, .ref z), (1, .long va), (3, .long vb), (5, .long vc)]) hx hb dX12_feed_114 hl (k := 2) rfl (by decide) (by decide) rfl (fun ls hl => ?_)
    refine lv_goto (tgt := 8) hx hb dX12_feed_117 (by decide) ?_
    have hst : kst n (kby vb 40) = n := by rw [← hk]; exact (by first | exact kst_full hfull | exact kst_a c76 hlt | exact kst_b c83 c90 hlt | exact kst_lo c76 c83 | exact kst_hi c76 c90)
    exact mf_11 z z2 z10 z11 z12 z13 z14 z15 z16 z17 z18 z19 z22 z23 z24 z25 z26 z27 z28 z29 z30 z31 z32 z33 z36 z37 z38 z39 z40 z41 z42 z43 z44 z45 z46 z47 z48 z55 z56 z59 z60 z61 va vb vc n f (by omega) F (by have h9 : kad vc 8 (kad vb 5 (kst n (kby vb 40))) = F := hF; rw [hst] at h9; exact h9) hC hr hlocks _ _ (kW.sub hw [0, 1] rfl rfl) _ (lv_sub hl [0, 3, 4, 5, 6] rfl)
  · have hlt : n < 1000 := by rcases Nat.lt_or_ge n 1000 with h9 | h9; exact h9; exact absurd (nI_le h9 (by omega)) c69
    refine lv_iload hx hb dX12_feed_72 (lv_at hl 0 rfl) ?_
    refine lv_bipush (v := 10) hx hb dX12_feed_74 (by decide) ?_
    refine lv_icmp_eq (tgt := 93) hx hb dX12_feed_76 (by decide) (fun c76 => ?_) (fun c76 => ?_)
    · refine lv_aload_n hx hb dX12_feed_93 rfl (lv_at hl 3 rfl) ?_
      refine fg_RX12_7 hC hw 0 rfl rfl dX12_feed_94 ?_
      refine lv_aload_n hx hb dX12_feed_97 rfl (lv_at hl 3 rfl) ?_
      refine fg_RX12_148 hC hw 0 rfl rfl dX12_feed_98 ?_
      refine lv_iload hx hb dX12_feed_101 (lv_at hl 0 rfl) ?_
      refine k_iast hC hw 1 rfl (vp_in_nI hlt (by decide)) dX12_feed_103 (fun H locs hw => ?_)
      obtain ⟨f_1601, ef_1601⟩ : ∃ g, g = upd f ((nI n) : Int32).toNatClampNeg x_1600 := ⟨_, rfl⟩
      have hw : kW γ A [(z, .inr (11, [.int 0, .int (nI n), .ref z2, .int 0, .int 0, .int 0, .int 0, .long 0, .int 0, .int 0, .ref z10, .ref z11, .ref z12, .ref z13, .ref z14, .ref z15, .ref z16, .ref z17, .ref z18, .ref z19, .int 0, .int 0, .ref z22, .ref z23, .ref z24, .ref z25, .ref z26, .ref z27, .ref z28, .ref z29, .ref z30, .ref z31, .ref z32, .ref z33, .int 0, .long 0, .ref z36, .ref z37, .ref z38, .ref z39, .ref z40, .ref z41, .ref z42, .ref z43, .ref z44, .ref z45, .ref z46, .ref z47, .ref z48, .int 0, .int 10, .int 0, .int 0, .int 0, .int 0, .ref z55, .ref z56, .int 0, .int 0, .ref z59, .ref z60, .ref z61, .int 0, .long 0])), (z2, .inl (γ.2.1 0, 1000, .inl f_1601))] s H locs := by rw [ef_1601]; exact hw
      refine lv_aload_n hx hb dX12_feed_104 rfl (lv_at hl 3 rfl) ?_
      refine lv_dup hx hb dX12_feed_105 rfl ?_
      refine fg_RX12_148 hC hw 0 rfl rfl dX12_feed_106 ?_
      refine lv_iconst (v := 1) hx hb dX12_feed_109 (by decide) ?_
      refine lv_iadd hx hb dX12_feed_110 ?_
      refine lv_topi (fun x_1602 ex_1602 => ?_)
      obtain rfl : x_1602 = (nI (n + 1)) := ex_1602.trans (nI_1 n)
      refine fs_RX12_148 hC hw 0 rfl rfl rfl (Nat.le_of_ble_eq_true rfl) dX12_feed_111 (fun H locs hw => ?_)
      have hw : kW γ A [(z, .inr (11, [.int 0, .int (nI (n + 1)), .ref z2, .int 0, .int 0, .int 0, .int 0, .long 0, .int 0, .int 0, .ref z10, .ref z11, .ref z12, .ref z13, .ref z14, .ref z15, .ref z16, .ref z17, .ref z18, .ref z19, .int 0, .int 0, .ref z22, .ref z23, .ref z24, .ref z25, .ref z26, .ref z27, .ref z28, .ref z29, .ref z30, .ref z31, .ref z32, .ref z33, .int 0, .long 0, .ref z36, .ref z37, .ref z38, .ref z39, .ref z40, .ref z41, .ref z42, .ref z43, .ref z44, .ref z45, .ref z46, .ref z47, .ref z48, .int 0, .int 10, .int 0, .int 0, .int 0, .int 0, .ref z55, .ref z56, .int 0, .int 0, .ref z59, .ref z60, .ref z61, .int 0, .long 0])), (z2, .inl (γ.2.1 0, 1000, .inl f_1601))] s H locs := hw
      refine lv_iinc (v := 11) (lv' := [(7, .int 11), (10, .int x_1600), (8, .long vb), (0, .ref z), (1, .long va), (3, .long vb), (5, .long vc)]) hx hb dX12_feed_114 hl (k := 2) rfl (by decide) (by decide) rfl (fun ls hl => ?_)
      refine lv_goto (tgt := 8) hx hb dX12_feed_117 (by decide) ?_
      have hst : kst n (kby vb 40) = (n + 1) := by rw [← hk]; exact (by first | exact kst_full hfull | exact kst_a c76 hlt | exact kst_b c83 c90 hlt | exact kst_lo c76 c83 | exact kst_hi c76 c90)
      exact mf_11 z z2 z10 z11 z12 z13 z14 z15 z16 z17 z18 z19 z22 z23 z24 z25 z26 z27 z28 z29 z30 z31 z32 z33 z36 z37 z38 z39 z40 z41 z42 z43 z44 z45 z46 z47 z48 z55 z56 z59 z60 z61 va vb vc (n + 1) f_1601 (by omega) F (by have h9 : kad vc 8 (kad vb 5 (kst n (kby vb 40))) = F := hF; rw [hst] at h9; exact h9) hC hr hlocks _ _ (kW.sub hw [0, 1] rfl rfl) _ (lv_sub hl [0, 3, 4, 5, 6] rfl)
    · refine lv_iload hx hb dX12_feed_79 (lv_at hl 0 rfl) ?_
      refine lv_bipush (v := 32) hx hb dX12_feed_81 (by decide) ?_
      refine lv_icmp_lt (tgt := 114) hx hb dX12_feed_83 (by decide) (fun c83 => ?_) (fun c83 => ?_)
      · refine lv_iinc (v := 11) (lv' := [(7, .int 11), (10, .int x_1600), (8, .long vb), (0, .ref z), (1, .long va), (3, .long vb), (5, .long vc)]) hx hb dX12_feed_114 hl (k := 2) rfl (by decide) (by decide) rfl (fun ls hl => ?_)
        refine lv_goto (tgt := 8) hx hb dX12_feed_117 (by decide) ?_
        have hst : kst n (kby vb 40) = n := by rw [← hk]; exact (by first | exact kst_full hfull | exact kst_a c76 hlt | exact kst_b c83 c90 hlt | exact kst_lo c76 c83 | exact kst_hi c76 c90)
        exact mf_11 z z2 z10 z11 z12 z13 z14 z15 z16 z17 z18 z19 z22 z23 z24 z25 z26 z27 z28 z29 z30 z31 z32 z33 z36 z37 z38 z39 z40 z41 z42 z43 z44 z45 z46 z47 z48 z55 z56 z59 z60 z61 va vb vc n f (by omega) F (by have h9 : kad vc 8 (kad vb 5 (kst n (kby vb 40))) = F := hF; rw [hst] at h9; exact h9) hC hr hlocks _ _ (kW.sub hw [0, 1] rfl rfl) _ (lv_sub hl [0, 3, 4, 5, 6] rfl)
      · refine lv_iload hx hb dX12_feed_86 (lv_at hl 0 rfl) ?_
        refine lv_bipush (v := 126) hx hb dX12_feed_88 (by decide) ?_
        refine lv_icmp_gt (tgt := 114) hx hb dX12_feed_90 (by decide) (fun c90 => ?_) (fun c90 => ?_)
        · refine lv_iinc (v := 11) (lv' := [(7, .int 11), (10, .int x_1600), (8, .long vb), (0, .ref z), (1, .long va), (3, .long vb), (5, .long vc)]) hx hb dX12_feed_114 hl (k := 2) rfl (by decide) (by decide) rfl (fun ls hl => ?_)
          refine lv_goto (tgt := 8) hx hb dX12_feed_117 (by decide) ?_
          have hst : kst n (kby vb 40) = n := by rw [← hk]; exact (by first | exact kst_full hfull | exact kst_a c76 hlt | exact kst_b c83 c90 hlt | exact kst_lo c76 c83 | exact kst_hi c76 c90)
          exact mf_11 z z2 z10 z11 z12 z13 z14 z15 z16 z17 z18 z19 z22 z23 z24 z25 z26 z27 z28 z29 z30 z31 z32 z33 z36 z37 z38 z39 z40 z41 z42 z43 z44 z45 z46 z47 z48 z55 z56 z59 z60 z61 va vb vc n f (by omega) F (by have h9 : kad vc 8 (kad vb 5 (kst n (kby vb 40))) = F := hF; rw [hst] at h9; exact h9) hC hr hlocks _ _ (kW.sub hw [0, 1] rfl rfl) _ (lv_sub hl [0, 3, 4, 5, 6] rfl)
        · refine lv_aload_n hx hb dX12_feed_93 rfl (lv_at hl 3 rfl) ?_
          refine fg_RX12_7 hC hw 0 rfl rfl dX12_feed_94 ?_
          refine lv_aload_n hx hb dX12_feed_97 rfl (lv_at hl 3 rfl) ?_
          refine fg_RX12_148 hC hw 0 rfl rfl dX12_feed_98 ?_
          refine lv_iload hx hb dX12_feed_101 (lv_at hl 0 rfl) ?_
          refine k_iast hC hw 1 rfl (vp_in_nI hlt (by decide)) dX12_feed_103 (fun H locs hw => ?_)
          obtain ⟨f_1603, ef_1603⟩ : ∃ g, g = upd f ((nI n) : Int32).toNatClampNeg x_1600 := ⟨_, rfl⟩
          have hw : kW γ A [(z, .inr (11, [.int 0, .int (nI n), .ref z2, .int 0, .int 0, .int 0, .int 0, .long 0, .int 0, .int 0, .ref z10, .ref z11, .ref z12, .ref z13, .ref z14, .ref z15, .ref z16, .ref z17, .ref z18, .ref z19, .int 0, .int 0, .ref z22, .ref z23, .ref z24, .ref z25, .ref z26, .ref z27, .ref z28, .ref z29, .ref z30, .ref z31, .ref z32, .ref z33, .int 0, .long 0, .ref z36, .ref z37, .ref z38, .ref z39, .ref z40, .ref z41, .ref z42, .ref z43, .ref z44, .ref z45, .ref z46, .ref z47, .ref z48, .int 0, .int 10, .int 0, .int 0, .int 0, .int 0, .ref z55, .ref z56, .int 0, .int 0, .ref z59, .ref z60, .ref z61, .int 0, .long 0])), (z2, .inl (γ.2.1 0, 1000, .inl f_1603))] s H locs := by rw [ef_1603]; exact hw
          refine lv_aload_n hx hb dX12_feed_104 rfl (lv_at hl 3 rfl) ?_
          refine lv_dup hx hb dX12_feed_105 rfl ?_
          refine fg_RX12_148 hC hw 0 rfl rfl dX12_feed_106 ?_
          refine lv_iconst (v := 1) hx hb dX12_feed_109 (by decide) ?_
          refine lv_iadd hx hb dX12_feed_110 ?_
          refine lv_topi (fun x_1604 ex_1604 => ?_)
          obtain rfl : x_1604 = (nI (n + 1)) := ex_1604.trans (nI_1 n)
          refine fs_RX12_148 hC hw 0 rfl rfl rfl (Nat.le_of_ble_eq_true rfl) dX12_feed_111 (fun H locs hw => ?_)
          have hw : kW γ A [(z, .inr (11, [.int 0, .int (nI (n + 1)), .ref z2, .int 0, .int 0, .int 0, .int 0, .long 0, .int 0, .int 0, .ref z10, .ref z11, .ref z12, .ref z13, .ref z14, .ref z15, .ref z16, .ref z17, .ref z18, .ref z19, .int 0, .int 0, .ref z22, .ref z23, .ref z24, .ref z25, .ref z26, .ref z27, .ref z28, .ref z29, .ref z30, .ref z31, .ref z32, .ref z33, .int 0, .long 0, .ref z36, .ref z37, .ref z38, .ref z39, .ref z40, .ref z41, .ref z42, .ref z43, .ref z44, .ref z45, .ref z46, .ref z47, .ref z48, .int 0, .int 10, .int 0, .int 0, .int 0, .int 0, .ref z55, .ref z56, .int 0, .int 0, .ref z59, .ref z60, .ref z61, .int 0, .long 0])), (z2, .inl (γ.2.1 0, 1000, .inl f_1603))] s H locs := hw
          refine lv_iinc (v := 11) (lv' := [(7, .int 11), (10, .int x_1600), (8, .long vb), (0, .ref z), (1, .long va), (3, .long vb), (5, .long vc)]) hx hb dX12_feed_114 hl (k := 2) rfl (by decide) (by decide) rfl (fun ls hl => ?_)
          refine lv_goto (tgt := 8) hx hb dX12_feed_117 (by decide) ?_
          have hst : kst n (kby vb 40) = (n + 1) := by rw [← hk]; exact (by first | exact kst_full hfull | exact kst_a c76 hlt | exact kst_b c83 c90 hlt | exact kst_lo c76 c83 | exact kst_hi c76 c90)
          exact mf_11 z z2 z10 z11 z12 z13 z14 z15 z16 z17 z18 z19 z22 z23 z24 z25 z26 z27 z28 z29 z30 z31 z32 z33 z36 z37 z38 z39 z40 z41 z42 z43 z44 z45 z46 z47 z48 z55 z56 z59 z60 z61 va vb vc (n + 1) f_1603 (by omega) F (by have h9 : kad vc 8 (kad vb 5 (kst n (kby vb 40))) = F := hF; rw [hst] at h9; exact h9) hC hr hlocks _ _ (kW.sub hw [0, 1] rfl rfl) _ (lv_sub hl [0, 3, 4, 5, 6] rfl)

set_option maxHeartbeats 4000000 in
set_option maxRecDepth 100000 in
theorem mf_9 {γ : kΓ} {l : Launch} {p : Program} {e : Env} {s : State} {m : MethodId} {below : List Frame} {meth : Method} {c : Code} {A : Nat → Prop} (z : Nat) (z2 : Nat) (z10 : Nat) (z11 : Nat) (z12 : Nat) (z13 : Nat) (z14 : Nat) (z15 : Nat) (z16 : Nat) (z17 : Nat) (z18 : Nat) (z19 : Nat) (z22 : Nat) (z23 : Nat) (z24 : Nat) (z25 : Nat) (z26 : Nat) (z27 : Nat) (z28 : Nat) (z29 : Nat) (z30 : Nat) (z31 : Nat) (z32 : Nat) (z33 : Nat) (z36 : Nat) (z37 : Nat) (z38 : Nat) (z39 : Nat) (z40 : Nat) (z41 : Nat) (z42 : Nat) (z43 : Nat) (z44 : Nat) (z45 : Nat) (z46 : Nat) (z47 : Nat) (z48 : Nat) (z55 : Nat) (z56 : Nat) (z59 : Nat) (z60 : Nat) (z61 : Nat) (va : Int64) (vb : Int64) (vc : Int64) (n : Nat) (f : Nat → Int32) (hn : n ≤ 1000) (F : Nat) (hF : kad vc 8 (kad vb 7 n) = F) (hC : kC γ p s m [.ref z, .long va, .long vb, .long vc].toArray c cX12_feed 11 RX12 A) (hr : meth.sig.returnType = (some .int)) (hlocks : meth.locks = false) (H : Heap) (locs : List Loc) (hw : kW γ A [(z, .inr (11, [.int 0, .int (nI n), .ref z2, .int 0, .int 0, .int 0, .int 0, .long 0, .int 0, .int 0, .ref z10, .ref z11, .ref z12, .ref z13, .ref z14, .ref z15, .ref z16, .ref z17, .ref z18, .ref z19, .int 0, .int 0, .ref z22, .ref z23, .ref z24, .ref z25, .ref z26, .ref z27, .ref z28, .ref z29, .ref z30, .ref z31, .ref z32, .ref z33, .int 0, .long 0, .ref z36, .ref z37, .ref z38, .ref z39, .ref z40, .ref z41, .ref z42, .ref z43, .ref z44, .ref z45, .ref z46, .ref z47, .ref z48, .int 0, .int 10, .int 0, .int 0, .int 0, .int 0, .ref z55, .ref z56, .int 0, .int 0, .ref z59, .ref z60, .ref z61, .int 0, .long 0])), (z2, .inl (γ.2.1 0, 1000, .inl f))] s H locs) (ls : Array Slot) (hl : lv_has ls 11 [(7, .int 9), (0, .ref z), (1, .long va), (3, .long vb), (5, .long vc)]) : W p l e ({ frames := 0, cells := 0, slots := 0, locals := 0 } : Room) s m [.ref z, .long va, .long vb, .long vc].toArray below meth c H locs 0 0 (MQ below (kQ γ A (fun r w1 => r = some (.int (nI F)) ∧ w1 = [])) [.ref z, .long va, .long vb, .long vc].toArray s 0 0 A) (F0 m 8 ls []) := by
  have hx := hC.1
  have hb := hC.2.1
  refine lv_iload hx hb dX12_feed_8 (lv_at hl 0 rfl) ?_
  refine lv_bipush (v := 24) hx hb dX12_feed_10 (by decide) ?_
  refine lv_icmp_ge (tgt := 120) hx hb dX12_feed_12 (by decide) (fun h => absurd h (by decide)) (fun _ => ?_)
  refine lv_iload hx hb dX12_feed_15 (lv_at hl 0 rfl) ?_
  refine lv_bipush (v := 8) hx hb dX12_feed_17 (by decide) ?_
  refine lv_icmp_ge (tgt := 26) hx hb dX12_feed_19 (by decide) (fun _ => ?_) (fun h => absurd (by decide) h)
  refine lv_iload hx hb dX12_feed_26 (lv_at hl 0 rfl) ?_
  refine lv_bipush (v := 16) hx hb dX12_feed_28 (by decide) ?_
  refine lv_icmp_ge (tgt := 37) hx hb dX12_feed_30 (by decide) (fun h => absurd h (by decide)) (fun _ => ?_)
  refine lv_lload_n hx hb dX12_feed_33 rfl (lv_at hl 3 rfl) ?_
  refine lv_goto (tgt := 39) hx hb dX12_feed_34 (by decide) ?_
  refine lv_lstore (lv' := [(8, .long vb), (7, .int 9), (0, .ref z), (1, .long va), (3, .long vb), (5, .long vc)]) hx hb dX12_feed_39 hl (by decide) rfl (fun ls hl => ?_)
  refine lv_lload hx hb dX12_feed_41 (lv_at hl 0 rfl) ?_
  refine lv_bipush (v := 56) hx hb dX12_feed_43 (by decide) ?_
  refine lv_bipush (v := 8) hx hb dX12_feed_45 (by decide) ?_
  refine lv_iload hx hb dX12_feed_47 (lv_at hl 1 rfl) ?_
  refine lv_bipush (v := 7) hx hb dX12_feed_49 (by decide) ?_
  refine lv_iand hx hb dX12_feed_51 ?_
  refine lv_topi (fun x_1605 ex_1605 => ?_)
  obtain rfl : x_1605 = 1 := ex_1605.trans (by decide)
  refine lv_imul hx hb dX12_feed_52 ?_
  refine lv_topi (fun x_1606 ex_1606 => ?_)
  obtain rfl : x_1606 = 8 := ex_1606.trans (by decide)
  refine lv_isub hx hb dX12_feed_53 ?_
  refine lv_topi (fun x_1607 ex_1607 => ?_)
  obtain rfl : x_1607 = 48 := ex_1607.trans (by decide)
  refine lv_lushr hx hb dX12_feed_54 rfl ?_
  refine lv_topl (fun x_1608 ex_1608 => ?_)
  refine k_ldc2 hC gw_1393 dX12_feed_55 ?_
  refine lv_land hx hb dX12_feed_58 ?_
  refine lv_topl (fun x_1609 ex_1609 => ?_)
  refine lv_l2i hx hb dX12_feed_59 rfl ?_
  refine lv_topi (fun x_1610 ex_1610 => ?_)
  refine lv_istore (lv' := [(10, .int x_1610), (8, .long vb), (7, .int 9), (0, .ref z), (1, .long va), (3, .long vb), (5, .long vc)]) hx hb dX12_feed_60 hl (by decide) rfl (fun ls hl => ?_)
  have hk : x_1610 = kby vb 48 := by rw [ex_1610, ex_1609, k_land, ex_1608]; rfl
  refine lv_aload_n hx hb dX12_feed_62 rfl (lv_at hl 3 rfl) ?_
  refine fg_RX12_148 hC hw 0 rfl rfl dX12_feed_63 ?_
  refine lv_sipush (v := 1000) hx hb dX12_feed_66 (by decide) ?_
  refine lv_icmp_ge (tgt := 114) hx hb dX12_feed_69 (by decide) (fun c69 => ?_) (fun c69 => ?_)
  · have hfull : ¬ n < 1000 := fun h9 => absurd c69 (nI_ge h9 (by decide))
    refine lv_iinc (v := 10) (lv' := [(7, .int 10), (10, .int x_1610), (8, .long vb), (0, .ref z), (1, .long va), (3, .long vb), (5, .long vc)]) hx hb dX12_feed_114 hl (k := 2) rfl (by decide) (by decide) rfl (fun ls hl => ?_)
    refine lv_goto (tgt := 8) hx hb dX12_feed_117 (by decide) ?_
    have hst : kst n (kby vb 48) = n := by rw [← hk]; exact (by first | exact kst_full hfull | exact kst_a c76 hlt | exact kst_b c83 c90 hlt | exact kst_lo c76 c83 | exact kst_hi c76 c90)
    exact mf_10 z z2 z10 z11 z12 z13 z14 z15 z16 z17 z18 z19 z22 z23 z24 z25 z26 z27 z28 z29 z30 z31 z32 z33 z36 z37 z38 z39 z40 z41 z42 z43 z44 z45 z46 z47 z48 z55 z56 z59 z60 z61 va vb vc n f (by omega) F (by have h9 : kad vc 8 (kad vb 6 (kst n (kby vb 48))) = F := hF; rw [hst] at h9; exact h9) hC hr hlocks _ _ (kW.sub hw [0, 1] rfl rfl) _ (lv_sub hl [0, 3, 4, 5, 6] rfl)
  · have hlt : n < 1000 := by rcases Nat.lt_or_ge n 1000 with h9 | h9; exact h9; exact absurd (nI_le h9 (by omega)) c69
    refine lv_iload hx hb dX12_feed_72 (lv_at hl 0 rfl) ?_
    refine lv_bipush (v := 10) hx hb dX12_feed_74 (by decide) ?_
    refine lv_icmp_eq (tgt := 93) hx hb dX12_feed_76 (by decide) (fun c76 => ?_) (fun c76 => ?_)
    · refine lv_aload_n hx hb dX12_feed_93 rfl (lv_at hl 3 rfl) ?_
      refine fg_RX12_7 hC hw 0 rfl rfl dX12_feed_94 ?_
      refine lv_aload_n hx hb dX12_feed_97 rfl (lv_at hl 3 rfl) ?_
      refine fg_RX12_148 hC hw 0 rfl rfl dX12_feed_98 ?_
      refine lv_iload hx hb dX12_feed_101 (lv_at hl 0 rfl) ?_
      refine k_iast hC hw 1 rfl (vp_in_nI hlt (by decide)) dX12_feed_103 (fun H locs hw => ?_)
      obtain ⟨f_1611, ef_1611⟩ : ∃ g, g = upd f ((nI n) : Int32).toNatClampNeg x_1610 := ⟨_, rfl⟩
      have hw : kW γ A [(z, .inr (11, [.int 0, .int (nI n), .ref z2, .int 0, .int 0, .int 0, .int 0, .long 0, .int 0, .int 0, .ref z10, .ref z11, .ref z12, .ref z13, .ref z14, .ref z15, .ref z16, .ref z17, .ref z18, .ref z19, .int 0, .int 0, .ref z22, .ref z23, .ref z24, .ref z25, .ref z26, .ref z27, .ref z28, .ref z29, .ref z30, .ref z31, .ref z32, .ref z33, .int 0, .long 0, .ref z36, .ref z37, .ref z38, .ref z39, .ref z40, .ref z41, .ref z42, .ref z43, .ref z44, .ref z45, .ref z46, .ref z47, .ref z48, .int 0, .int 10, .int 0, .int 0, .int 0, .int 0, .ref z55, .ref z56, .int 0, .int 0, .ref z59, .ref z60, .ref z61, .int 0, .long 0])), (z2, .inl (γ.2.1 0, 1000, .inl f_1611))] s H locs := by rw [ef_1611]; exact hw
      refine lv_aload_n hx hb dX12_feed_104 rfl (lv_at hl 3 rfl) ?_
      refine lv_dup hx hb dX12_feed_105 rfl ?_
      refine fg_RX12_148 hC hw 0 rfl rfl dX12_feed_106 ?_
      refine lv_iconst (v := 1) hx hb dX12_feed_109 (by decide) ?_
      refine lv_iadd hx hb dX12_feed_110 ?_
      refine lv_topi (fun x_1612 ex_1612 => ?_)
      obtain rfl : x_1612 = (nI (n + 1)) := ex_1612.trans (nI_1 n)
      refine fs_RX12_148 hC hw 0 rfl rfl rfl (Nat.le_of_ble_eq_true rfl) dX12_feed_111 (fun H locs hw => ?_)
      have hw : kW γ A [(z, .inr (11, [.int 0, .int (nI (n + 1)), .ref z2, .int 0, .int 0, .int 0, .int 0, .long 0, .int 0, .int 0, .ref z10, .ref z11, .ref z12, .ref z13, .ref z14, .ref z15, .ref z16, .ref z17, .ref z18, .ref z19, .int 0, .int 0, .ref z22, .ref z23, .ref z24, .ref z25, .ref z26, .ref z27, .ref z28, .ref z29, .ref z30, .ref z31, .ref z32, .ref z33, .int 0, .long 0, .ref z36, .ref z37, .ref z38, .ref z39, .ref z40, .ref z41, .ref z42, .ref z43, .ref z44, .ref z45, .ref z46, .ref z47, .ref z48, .int 0, .int 10, .int 0, .int 0, .int 0, .int 0, .ref z55, .ref z56, .int 0, .int 0, .ref z59, .ref z60, .ref z61, .int 0, .long 0])), (z2, .inl (γ.2.1 0, 1000, .inl f_1611))] s H locs := hw
      refine lv_iinc (v := 10) (lv' := [(7, .int 10), (10, .int x_1610), (8, .long vb), (0, .ref z), (1, .long va), (3, .long vb), (5, .long vc)]) hx hb dX12_feed_114 hl (k := 2) rfl (by decide) (by decide) rfl (fun ls hl => ?_)
      refine lv_goto (tgt := 8) hx hb dX12_feed_117 (by decide) ?_
      have hst : kst n (kby vb 48) = (n + 1) := by rw [← hk]; exact (by first | exact kst_full hfull | exact kst_a c76 hlt | exact kst_b c83 c90 hlt | exact kst_lo c76 c83 | exact kst_hi c76 c90)
      exact mf_10 z z2 z10 z11 z12 z13 z14 z15 z16 z17 z18 z19 z22 z23 z24 z25 z26 z27 z28 z29 z30 z31 z32 z33 z36 z37 z38 z39 z40 z41 z42 z43 z44 z45 z46 z47 z48 z55 z56 z59 z60 z61 va vb vc (n + 1) f_1611 (by omega) F (by have h9 : kad vc 8 (kad vb 6 (kst n (kby vb 48))) = F := hF; rw [hst] at h9; exact h9) hC hr hlocks _ _ (kW.sub hw [0, 1] rfl rfl) _ (lv_sub hl [0, 3, 4, 5, 6] rfl)
    · refine lv_iload hx hb dX12_feed_79 (lv_at hl 0 rfl) ?_
      refine lv_bipush (v := 32) hx hb dX12_feed_81 (by decide) ?_
      refine lv_icmp_lt (tgt := 114) hx hb dX12_feed_83 (by decide) (fun c83 => ?_) (fun c83 => ?_)
      · refine lv_iinc (v := 10) (lv' := [(7, .int 10), (10, .int x_1610), (8, .long vb), (0, .ref z), (1, .long va), (3, .long vb), (5, .long vc)]) hx hb dX12_feed_114 hl (k := 2) rfl (by decide) (by decide) rfl (fun ls hl => ?_)
        refine lv_goto (tgt := 8) hx hb dX12_feed_117 (by decide) ?_
        have hst : kst n (kby vb 48) = n := by rw [← hk]; exact (by first | exact kst_full hfull | exact kst_a c76 hlt | exact kst_b c83 c90 hlt | exact kst_lo c76 c83 | exact kst_hi c76 c90)
        exact mf_10 z z2 z10 z11 z12 z13 z14 z15 z16 z17 z18 z19 z22 z23 z24 z25 z26 z27 z28 z29 z30 z31 z32 z33 z36 z37 z38 z39 z40 z41 z42 z43 z44 z45 z46 z47 z48 z55 z56 z59 z60 z61 va vb vc n f (by omega) F (by have h9 : kad vc 8 (kad vb 6 (kst n (kby vb 48))) = F := hF; rw [hst] at h9; exact h9) hC hr hlocks _ _ (kW.sub hw [0, 1] rfl rfl) _ (lv_sub hl [0, 3, 4, 5, 6] rfl)
      · refine lv_iload hx hb dX12_feed_86 (lv_at hl 0 rfl) ?_
        refine lv_bipush (v := 126) hx hb dX12_feed_88 (by decide) ?_
        refine lv_icmp_gt (tgt := 114) hx hb dX12_feed_90 (by decide) (fun c90 => ?_) (fun c90 => ?_)
        · refine lv_iinc (v := 10) (lv' := [(7, .int 10), (10, .int x_1610), (8, .long vb), (0, .ref z), (1, .long va), (3, .long vb), (5, .long vc)]) hx hb dX12_feed_114 hl (k := 2) rfl (by decide) (by decide) rfl (fun ls hl => ?_)
          refine lv_goto (tgt := 8) hx hb dX12_feed_117 (by decide) ?_
          have hst : kst n (kby vb 48) = n := by rw [← hk]; exact (by first | exact kst_full hfull | exact kst_a c76 hlt | exact kst_b c83 c90 hlt | exact kst_lo c76 c83 | exact kst_hi c76 c90)
          exact mf_10 z z2 z10 z11 z12 z13 z14 z15 z16 z17 z18 z19 z22 z23 z24 z25 z26 z27 z28 z29 z30 z31 z32 z33 z36 z37 z38 z39 z40 z41 z42 z43 z44 z45 z46 z47 z48 z55 z56 z59 z60 z61 va vb vc n f (by omega) F (by have h9 : kad vc 8 (kad vb 6 (kst n (kby vb 48))) = F := hF; rw [hst] at h9; exact h9) hC hr hlocks _ _ (kW.sub hw [0, 1] rfl rfl) _ (lv_sub hl [0, 3, 4, 5, 6] rfl)
        · refine lv_aload_n hx hb dX12_feed_93 rfl (lv_at hl 3 rfl) ?_
          refine fg_RX12_7 hC hw 0 rfl rfl dX12_feed_94 ?_
          refine lv_aload_n hx hb dX12_feed_97 rfl (lv_at hl 3 rfl) ?_
          refine fg_RX12_148 hC hw 0 rfl rfl dX12_feed_98 ?_
          refine lv_iload hx hb dX12_feed_101 (lv_at hl 0 rfl) ?_
          refine k_iast hC hw 1 rfl (vp_in_nI hlt (by decide)) dX12_feed_103 (fun H locs hw => ?_)
          obtain ⟨f_1613, ef_1613⟩ : ∃ g, g = upd f ((nI n) : Int32).toNatClampNeg x_1610 := ⟨_, rfl⟩
          have hw : kW γ A [(z, .inr (11, [.int 0, .int (nI n), .ref z2, .int 0, .int 0, .int 0, .int 0, .long 0, .int 0, .int 0, .ref z10, .ref z11, .ref z12, .ref z13, .ref z14, .ref z15, .ref z16, .ref z17, .ref z18, .ref z19, .int 0, .int 0, .ref z22, .ref z23, .ref z24, .ref z25, .ref z26, .ref z27, .ref z28, .ref z29, .ref z30, .ref z31, .ref z32, .ref z33, .int 0, .long 0, .ref z36, .ref z37, .ref z38, .ref z39, .ref z40, .ref z41, .ref z42, .ref z43, .ref z44, .ref z45, .ref z46, .ref z47, .ref z48, .int 0, .int 10, .int 0, .int 0, .int 0, .int 0, .ref z55, .ref z56, .int 0, .int 0, .ref z59, .ref z60, .ref z61, .int 0, .long 0])), (z2, .inl (γ.2.1 0, 1000, .inl f_1613))] s H locs := by rw [ef_1613]; exact hw
          refine lv_aload_n hx hb dX12_feed_104 rfl (lv_at hl 3 rfl) ?_
          refine lv_dup hx hb dX12_feed_105 rfl ?_
          refine fg_RX12_148 hC hw 0 rfl rfl dX12_feed_106 ?_
          refine lv_iconst (v := 1) hx hb dX12_feed_109 (by decide) ?_
          refine lv_iadd hx hb dX12_feed_110 ?_
          refine lv_topi (fun x_1614 ex_1614 => ?_)
          obtain rfl : x_1614 = (nI (n + 1)) := ex_1614.trans (nI_1 n)
          refine fs_RX12_148 hC hw 0 rfl rfl rfl (Nat.le_of_ble_eq_true rfl) dX12_feed_111 (fun H locs hw => ?_)
          have hw : kW γ A [(z, .inr (11, [.int 0, .int (nI (n + 1)), .ref z2, .int 0, .int 0, .int 0, .int 0, .long 0, .int 0, .int 0, .ref z10, .ref z11, .ref z12, .ref z13, .ref z14, .ref z15, .ref z16, .ref z17, .ref z18, .ref z19, .int 0, .int 0, .ref z22, .ref z23, .ref z24, .ref z25, .ref z26, .ref z27, .ref z28, .ref z29, .ref z30, .ref z31, .ref z32, .ref z33, .int 0, .long 0, .ref z36, .ref z37, .ref z38, .ref z39, .ref z40, .ref z41, .ref z42, .ref z43, .ref z44, .ref z45, .ref z46, .ref z47, .ref z48, .int 0, .int 10, .int 0, .int 0, .int 0, .int 0, .ref z55, .ref z56, .int 0, .int 0, .ref z59, .ref z60, .ref z61, .int 0, .long 0])), (z2, .inl (γ.2.1 0, 1000, .inl f_1613))] s H locs := hw
          refine lv_iinc (v := 10) (lv' := [(7, .int 10), (10, .int x_1610), (8, .long vb), (0, .ref z), (1, .long va), (3, .long vb), (5, .long vc)]) hx hb dX12_feed_114 hl (k := 2) rfl (by decide) (by decide) rfl (fun ls hl => ?_)
          refine lv_goto (tgt := 8) hx hb dX12_feed_117 (by decide) ?_
          have hst : kst n (kby vb 48) = (n + 1) := by rw [← hk]; exact (by first | exact kst_full hfull | exact kst_a c76 hlt | exact kst_b c83 c90 hlt | exact kst_lo c76 c83 | exact kst_hi c76 c90)
          exact mf_10 z z2 z10 z11 z12 z13 z14 z15 z16 z17 z18 z19 z22 z23 z24 z25 z26 z27 z28 z29 z30 z31 z32 z33 z36 z37 z38 z39 z40 z41 z42 z43 z44 z45 z46 z47 z48 z55 z56 z59 z60 z61 va vb vc (n + 1) f_1613 (by omega) F (by have h9 : kad vc 8 (kad vb 6 (kst n (kby vb 48))) = F := hF; rw [hst] at h9; exact h9) hC hr hlocks _ _ (kW.sub hw [0, 1] rfl rfl) _ (lv_sub hl [0, 3, 4, 5, 6] rfl)

set_option maxHeartbeats 4000000 in
set_option maxRecDepth 100000 in
theorem mf_8 {γ : kΓ} {l : Launch} {p : Program} {e : Env} {s : State} {m : MethodId} {below : List Frame} {meth : Method} {c : Code} {A : Nat → Prop} (z : Nat) (z2 : Nat) (z10 : Nat) (z11 : Nat) (z12 : Nat) (z13 : Nat) (z14 : Nat) (z15 : Nat) (z16 : Nat) (z17 : Nat) (z18 : Nat) (z19 : Nat) (z22 : Nat) (z23 : Nat) (z24 : Nat) (z25 : Nat) (z26 : Nat) (z27 : Nat) (z28 : Nat) (z29 : Nat) (z30 : Nat) (z31 : Nat) (z32 : Nat) (z33 : Nat) (z36 : Nat) (z37 : Nat) (z38 : Nat) (z39 : Nat) (z40 : Nat) (z41 : Nat) (z42 : Nat) (z43 : Nat) (z44 : Nat) (z45 : Nat) (z46 : Nat) (z47 : Nat) (z48 : Nat) (z55 : Nat) (z56 : Nat) (z59 : Nat) (z60 : Nat) (z61 : Nat) (va : Int64) (vb : Int64) (vc : Int64) (n : Nat) (f : Nat → Int32) (hn : n ≤ 1000) (F : Nat) (hF : kad vc 8 (kad vb 8 n) = F) (hC : kC γ p s m [.ref z, .long va, .long vb, .long vc].toArray c cX12_feed 11 RX12 A) (hr : meth.sig.returnType = (some .int)) (hlocks : meth.locks = false) (H : Heap) (locs : List Loc) (hw : kW γ A [(z, .inr (11, [.int 0, .int (nI n), .ref z2, .int 0, .int 0, .int 0, .int 0, .long 0, .int 0, .int 0, .ref z10, .ref z11, .ref z12, .ref z13, .ref z14, .ref z15, .ref z16, .ref z17, .ref z18, .ref z19, .int 0, .int 0, .ref z22, .ref z23, .ref z24, .ref z25, .ref z26, .ref z27, .ref z28, .ref z29, .ref z30, .ref z31, .ref z32, .ref z33, .int 0, .long 0, .ref z36, .ref z37, .ref z38, .ref z39, .ref z40, .ref z41, .ref z42, .ref z43, .ref z44, .ref z45, .ref z46, .ref z47, .ref z48, .int 0, .int 10, .int 0, .int 0, .int 0, .int 0, .ref z55, .ref z56, .int 0, .int 0, .ref z59, .ref z60, .ref z61, .int 0, .long 0])), (z2, .inl (γ.2.1 0, 1000, .inl f))] s H locs) (ls : Array Slot) (hl : lv_has ls 11 [(7, .int 8), (0, .ref z), (1, .long va), (3, .long vb), (5, .long vc)]) : W p l e ({ frames := 0, cells := 0, slots := 0, locals := 0 } : Room) s m [.ref z, .long va, .long vb, .long vc].toArray below meth c H locs 0 0 (MQ below (kQ γ A (fun r w1 => r = some (.int (nI F)) ∧ w1 = [])) [.ref z, .long va, .long vb, .long vc].toArray s 0 0 A) (F0 m 8 ls []) := by
  have hx := hC.1
  have hb := hC.2.1
  refine lv_iload hx hb dX12_feed_8 (lv_at hl 0 rfl) ?_
  refine lv_bipush (v := 24) hx hb dX12_feed_10 (by decide) ?_
  refine lv_icmp_ge (tgt := 120) hx hb dX12_feed_12 (by decide) (fun h => absurd h (by decide)) (fun _ => ?_)
  refine lv_iload hx hb dX12_feed_15 (lv_at hl 0 rfl) ?_
  refine lv_bipush (v := 8) hx hb dX12_feed_17 (by decide) ?_
  refine lv_icmp_ge (tgt := 26) hx hb dX12_feed_19 (by decide) (fun _ => ?_) (fun h => absurd (by decide) h)
  refine lv_iload hx hb dX12_feed_26 (lv_at hl 0 rfl) ?_
  refine lv_bipush (v := 16) hx hb dX12_feed_28 (by decide) ?_
  refine lv_icmp_ge (tgt := 37) hx hb dX12_feed_30 (by decide) (fun h => absurd h (by decide)) (fun _ => ?_)
  refine lv_lload_n hx hb dX12_feed_33 rfl (lv_at hl 3 rfl) ?_
  refine lv_goto (tgt := 39) hx hb dX12_feed_34 (by decide) ?_
  refine lv_lstore (lv' := [(8, .long vb), (7, .int 8), (0, .ref z), (1, .long va), (3, .long vb), (5, .long vc)]) hx hb dX12_feed_39 hl (by decide) rfl (fun ls hl => ?_)
  refine lv_lload hx hb dX12_feed_41 (lv_at hl 0 rfl) ?_
  refine lv_bipush (v := 56) hx hb dX12_feed_43 (by decide) ?_
  refine lv_bipush (v := 8) hx hb dX12_feed_45 (by decide) ?_
  refine lv_iload hx hb dX12_feed_47 (lv_at hl 1 rfl) ?_
  refine lv_bipush (v := 7) hx hb dX12_feed_49 (by decide) ?_
  refine lv_iand hx hb dX12_feed_51 ?_
  refine lv_topi (fun x_1615 ex_1615 => ?_)
  obtain rfl : x_1615 = 0 := ex_1615.trans (by decide)
  refine lv_imul hx hb dX12_feed_52 ?_
  refine lv_topi (fun x_1616 ex_1616 => ?_)
  obtain rfl : x_1616 = 0 := ex_1616.trans (by decide)
  refine lv_isub hx hb dX12_feed_53 ?_
  refine lv_topi (fun x_1617 ex_1617 => ?_)
  obtain rfl : x_1617 = 56 := ex_1617.trans (by decide)
  refine lv_lushr hx hb dX12_feed_54 rfl ?_
  refine lv_topl (fun x_1618 ex_1618 => ?_)
  refine k_ldc2 hC gw_1393 dX12_feed_55 ?_
  refine lv_land hx hb dX12_feed_58 ?_
  refine lv_topl (fun x_1619 ex_1619 => ?_)
  refine lv_l2i hx hb dX12_feed_59 rfl ?_
  refine lv_topi (fun x_1620 ex_1620 => ?_)
  refine lv_istore (lv' := [(10, .int x_1620), (8, .long vb), (7, .int 8), (0, .ref z), (1, .long va), (3, .long vb), (5, .long vc)]) hx hb dX12_feed_60 hl (by decide) rfl (fun ls hl => ?_)
  have hk : x_1620 = kby vb 56 := by rw [ex_1620, ex_1619, k_land, ex_1618]; rfl
  refine lv_aload_n hx hb dX12_feed_62 rfl (lv_at hl 3 rfl) ?_
  refine fg_RX12_148 hC hw 0 rfl rfl dX12_feed_63 ?_
  refine lv_sipush (v := 1000) hx hb dX12_feed_66 (by decide) ?_
  refine lv_icmp_ge (tgt := 114) hx hb dX12_feed_69 (by decide) (fun c69 => ?_) (fun c69 => ?_)
  · have hfull : ¬ n < 1000 := fun h9 => absurd c69 (nI_ge h9 (by decide))
    refine lv_iinc (v := 9) (lv' := [(7, .int 9), (10, .int x_1620), (8, .long vb), (0, .ref z), (1, .long va), (3, .long vb), (5, .long vc)]) hx hb dX12_feed_114 hl (k := 2) rfl (by decide) (by decide) rfl (fun ls hl => ?_)
    refine lv_goto (tgt := 8) hx hb dX12_feed_117 (by decide) ?_
    have hst : kst n (kby vb 56) = n := by rw [← hk]; exact (by first | exact kst_full hfull | exact kst_a c76 hlt | exact kst_b c83 c90 hlt | exact kst_lo c76 c83 | exact kst_hi c76 c90)
    exact mf_9 z z2 z10 z11 z12 z13 z14 z15 z16 z17 z18 z19 z22 z23 z24 z25 z26 z27 z28 z29 z30 z31 z32 z33 z36 z37 z38 z39 z40 z41 z42 z43 z44 z45 z46 z47 z48 z55 z56 z59 z60 z61 va vb vc n f (by omega) F (by have h9 : kad vc 8 (kad vb 7 (kst n (kby vb 56))) = F := hF; rw [hst] at h9; exact h9) hC hr hlocks _ _ (kW.sub hw [0, 1] rfl rfl) _ (lv_sub hl [0, 3, 4, 5, 6] rfl)
  · have hlt : n < 1000 := by rcases Nat.lt_or_ge n 1000 with h9 | h9; exact h9; exact absurd (nI_le h9 (by omega)) c69
    refine lv_iload hx hb dX12_feed_72 (lv_at hl 0 rfl) ?_
    refine lv_bipush (v := 10) hx hb dX12_feed_74 (by decide) ?_
    refine lv_icmp_eq (tgt := 93) hx hb dX12_feed_76 (by decide) (fun c76 => ?_) (fun c76 => ?_)
    · refine lv_aload_n hx hb dX12_feed_93 rfl (lv_at hl 3 rfl) ?_
      refine fg_RX12_7 hC hw 0 rfl rfl dX12_feed_94 ?_
      refine lv_aload_n hx hb dX12_feed_97 rfl (lv_at hl 3 rfl) ?_
      refine fg_RX12_148 hC hw 0 rfl rfl dX12_feed_98 ?_
      refine lv_iload hx hb dX12_feed_101 (lv_at hl 0 rfl) ?_
      refine k_iast hC hw 1 rfl (vp_in_nI hlt (by decide)) dX12_feed_103 (fun H locs hw => ?_)
      obtain ⟨f_1621, ef_1621⟩ : ∃ g, g = upd f ((nI n) : Int32).toNatClampNeg x_1620 := ⟨_, rfl⟩
      have hw : kW γ A [(z, .inr (11, [.int 0, .int (nI n), .ref z2, .int 0, .int 0, .int 0, .int 0, .long 0, .int 0, .int 0, .ref z10, .ref z11, .ref z12, .ref z13, .ref z14, .ref z15, .ref z16, .ref z17, .ref z18, .ref z19, .int 0, .int 0, .ref z22, .ref z23, .ref z24, .ref z25, .ref z26, .ref z27, .ref z28, .ref z29, .ref z30, .ref z31, .ref z32, .ref z33, .int 0, .long 0, .ref z36, .ref z37, .ref z38, .ref z39, .ref z40, .ref z41, .ref z42, .ref z43, .ref z44, .ref z45, .ref z46, .ref z47, .ref z48, .int 0, .int 10, .int 0, .int 0, .int 0, .int 0, .ref z55, .ref z56, .int 0, .int 0, .ref z59, .ref z60, .ref z61, .int 0, .long 0])), (z2, .inl (γ.2.1 0, 1000, .inl f_1621))] s H locs := by rw [ef_1621]; exact hw
      refine lv_aload_n hx hb dX12_feed_104 rfl (lv_at hl 3 rfl) ?_
      refine lv_dup hx hb dX12_feed_105 rfl ?_
      refine fg_RX12_148 hC hw 0 rfl rfl dX12_feed_106 ?_
      refine lv_iconst (v := 1) hx hb dX12_feed_109 (by decide) ?_
      refine lv_iadd hx hb dX12_feed_110 ?_
      refine lv_topi (fun x_1622 ex_1622 => ?_)
      obtain rfl : x_1622 = (nI (n + 1)) := ex_1622.trans (nI_1 n)
      refine fs_RX12_148 hC hw 0 rfl rfl rfl (Nat.le_of_ble_eq_true rfl) dX12_feed_111 (fun H locs hw => ?_)
      have hw : kW γ A [(z, .inr (11, [.int 0, .int (nI (n + 1)), .ref z2, .int 0, .int 0, .int 0, .int 0, .long 0, .int 0, .int 0, .ref z10, .ref z11, .ref z12, .ref z13, .ref z14, .ref z15, .ref z16, .ref z17, .ref z18, .ref z19, .int 0, .int 0, .ref z22, .ref z23, .ref z24, .ref z25, .ref z26, .ref z27, .ref z28, .ref z29, .ref z30, .ref z31, .ref z32, .ref z33, .int 0, .long 0, .ref z36, .ref z37, .ref z38, .ref z39, .ref z40, .ref z41, .ref z42, .ref z43, .ref z44, .ref z45, .ref z46, .ref z47, .ref z48, .int 0, .int 10, .int 0, .int 0, .int 0, .int 0, .ref z55, .ref z56, .int 0, .int 0, .ref z59, .ref z60, .ref z61, .int 0, .long 0])), (z2, .inl (γ.2.1 0, 1000, .inl f_1621))] s H locs := hw
      refine lv_iinc (v := 9) (lv' := [(7, .int 9), (10, .int x_1620), (8, .long vb), (0, .ref z), (1, .long va), (3, .long vb), (5, .long vc)]) hx hb dX12_feed_114 hl (k := 2) rfl (by decide) (by decide) rfl (fun ls hl => ?_)
      refine lv_goto (tgt := 8) hx hb dX12_feed_117 (by decide) ?_
      have hst : kst n (kby vb 56) = (n + 1) := by rw [← hk]; exact (by first | exact kst_full hfull | exact kst_a c76 hlt | exact kst_b c83 c90 hlt | exact kst_lo c76 c83 | exact kst_hi c76 c90)
      exact mf_9 z z2 z10 z11 z12 z13 z14 z15 z16 z17 z18 z19 z22 z23 z24 z25 z26 z27 z28 z29 z30 z31 z32 z33 z36 z37 z38 z39 z40 z41 z42 z43 z44 z45 z46 z47 z48 z55 z56 z59 z60 z61 va vb vc (n + 1) f_1621 (by omega) F (by have h9 : kad vc 8 (kad vb 7 (kst n (kby vb 56))) = F := hF; rw [hst] at h9; exact h9) hC hr hlocks _ _ (kW.sub hw [0, 1] rfl rfl) _ (lv_sub hl [0, 3, 4, 5, 6] rfl)
    · refine lv_iload hx hb dX12_feed_79 (lv_at hl 0 rfl) ?_
      refine lv_bipush (v := 32) hx hb dX12_feed_81 (by decide) ?_
      refine lv_icmp_lt (tgt := 114) hx hb dX12_feed_83 (by decide) (fun c83 => ?_) (fun c83 => ?_)
      · refine lv_iinc (v := 9) (lv' := [(7, .int 9), (10, .int x_1620), (8, .long vb), (0, .ref z), (1, .long va), (3, .long vb), (5, .long vc)]) hx hb dX12_feed_114 hl (k := 2) rfl (by decide) (by decide) rfl (fun ls hl => ?_)
        refine lv_goto (tgt := 8) hx hb dX12_feed_117 (by decide) ?_
        have hst : kst n (kby vb 56) = n := by rw [← hk]; exact (by first | exact kst_full hfull | exact kst_a c76 hlt | exact kst_b c83 c90 hlt | exact kst_lo c76 c83 | exact kst_hi c76 c90)
        exact mf_9 z z2 z10 z11 z12 z13 z14 z15 z16 z17 z18 z19 z22 z23 z24 z25 z26 z27 z28 z29 z30 z31 z32 z33 z36 z37 z38 z39 z40 z41 z42 z43 z44 z45 z46 z47 z48 z55 z56 z59 z60 z61 va vb vc n f (by omega) F (by have h9 : kad vc 8 (kad vb 7 (kst n (kby vb 56))) = F := hF; rw [hst] at h9; exact h9) hC hr hlocks _ _ (kW.sub hw [0, 1] rfl rfl) _ (lv_sub hl [0, 3, 4, 5, 6] rfl)
      · refine lv_iload hx hb dX12_feed_86 (lv_at hl 0 rfl) ?_
        refine lv_bipush (v := 126) hx hb dX12_feed_88 (by decide) ?_
        refine lv_icmp_gt (tgt := 114) hx hb dX12_feed_90 (by decide) (fun c90 => ?_) (fun c90 => ?_)
        · refine lv_iinc (v := 9) (lv' := [(7, .int 9), (10, .int x_1620), (8, .long vb), (0, .ref z), (1, .long va), (3, .long vb), (5, .long vc)]) hx hb dX12_feed_114 hl (k := 2) rfl (by decide) (by decide) rfl (fun ls hl => ?_)
          refine lv_goto (tgt := 8) hx hb dX12_feed_117 (by decide) ?_
          have hst : kst n (kby vb 56) = n := by rw [← hk]; exact (by first | exact kst_full hfull | exact kst_a c76 hlt | exact kst_b c83 c90 hlt | exact kst_lo c76 c83 | exact kst_hi c76 c90)
          exact mf_9 z z2 z10 z11 z12 z13 z14 z15 z16 z17 z18 z19 z22 z23 z24 z25 z26 z27 z28 z29 z30 z31 z32 z33 z36 z37 z38 z39 z40 z41 z42 z43 z44 z45 z46 z47 z48 z55 z56 z59 z60 z61 va vb vc n f (by omega) F (by have h9 : kad vc 8 (kad vb 7 (kst n (kby vb 56))) = F := hF; rw [hst] at h9; exact h9) hC hr hlocks _ _ (kW.sub hw [0, 1] rfl rfl) _ (lv_sub hl [0, 3, 4, 5, 6] rfl)
        · refine lv_aload_n hx hb dX12_feed_93 rfl (lv_at hl 3 rfl) ?_
          refine fg_RX12_7 hC hw 0 rfl rfl dX12_feed_94 ?_
          refine lv_aload_n hx hb dX12_feed_97 rfl (lv_at hl 3 rfl) ?_
          refine fg_RX12_148 hC hw 0 rfl rfl dX12_feed_98 ?_
          refine lv_iload hx hb dX12_feed_101 (lv_at hl 0 rfl) ?_
          refine k_iast hC hw 1 rfl (vp_in_nI hlt (by decide)) dX12_feed_103 (fun H locs hw => ?_)
          obtain ⟨f_1623, ef_1623⟩ : ∃ g, g = upd f ((nI n) : Int32).toNatClampNeg x_1620 := ⟨_, rfl⟩
          have hw : kW γ A [(z, .inr (11, [.int 0, .int (nI n), .ref z2, .int 0, .int 0, .int 0, .int 0, .long 0, .int 0, .int 0, .ref z10, .ref z11, .ref z12, .ref z13, .ref z14, .ref z15, .ref z16, .ref z17, .ref z18, .ref z19, .int 0, .int 0, .ref z22, .ref z23, .ref z24, .ref z25, .ref z26, .ref z27, .ref z28, .ref z29, .ref z30, .ref z31, .ref z32, .ref z33, .int 0, .long 0, .ref z36, .ref z37, .ref z38, .ref z39, .ref z40, .ref z41, .ref z42, .ref z43, .ref z44, .ref z45, .ref z46, .ref z47, .ref z48, .int 0, .int 10, .int 0, .int 0, .int 0, .int 0, .ref z55, .ref z56, .int 0, .int 0, .ref z59, .ref z60, .ref z61, .int 0, .long 0])), (z2, .inl (γ.2.1 0, 1000, .inl f_1623))] s H locs := by rw [ef_1623]; exact hw
          refine lv_aload_n hx hb dX12_feed_104 rfl (lv_at hl 3 rfl) ?_
          refine lv_dup hx hb dX12_feed_105 rfl ?_
          refine fg_RX12_148 hC hw 0 rfl rfl dX12_feed_106 ?_
          refine lv_iconst (v := 1) hx hb dX12_feed_109 (by decide) ?_
          refine lv_iadd hx hb dX12_feed_110 ?_
          refine lv_topi (fun x_1624 ex_1624 => ?_)
          obtain rfl : x_1624 = (nI (n + 1)) := ex_1624.trans (nI_1 n)
          refine fs_RX12_148 hC hw 0 rfl rfl rfl (Nat.le_of_ble_eq_true rfl) dX12_feed_111 (fun H locs hw => ?_)
          have hw : kW γ A [(z, .inr (11, [.int 0, .int (nI (n + 1)), .ref z2, .int 0, .int 0, .int 0, .int 0, .long 0, .int 0, .int 0, .ref z10, .ref z11, .ref z12, .ref z13, .ref z14, .ref z15, .ref z16, .ref z17, .ref z18, .ref z19, .int 0, .int 0, .ref z22, .ref z23, .ref z24, .ref z25, .ref z26, .ref z27, .ref z28, .ref z29, .ref z30, .ref z31, .ref z32, .ref z33, .int 0, .long 0, .ref z36, .ref z37, .ref z38, .ref z39, .ref z40, .ref z41, .ref z42, .ref z43, .ref z44, .ref z45, .ref z46, .ref z47, .ref z48, .int 0, .int 10, .int 0, .int 0, .int 0, .int 0, .ref z55, .ref z56, .int 0, .int 0, .ref z59, .ref z60, .ref z61, .int 0, .long 0])), (z2, .inl (γ.2.1 0, 1000, .inl f_1623))] s H locs := hw
          refine lv_iinc (v := 9) (lv' := [(7, .int 9), (10, .int x_1620), (8, .long vb), (0, .ref z), (1, .long va), (3, .long vb), (5, .long vc)]) hx hb dX12_feed_114 hl (k := 2) rfl (by decide) (by decide) rfl (fun ls hl => ?_)
          refine lv_goto (tgt := 8) hx hb dX12_feed_117 (by decide) ?_
          have hst : kst n (kby vb 56) = (n + 1) := by rw [← hk]; exact (by first | exact kst_full hfull | exact kst_a c76 hlt | exact kst_b c83 c90 hlt | exact kst_lo c76 c83 | exact kst_hi c76 c90)
          exact mf_9 z z2 z10 z11 z12 z13 z14 z15 z16 z17 z18 z19 z22 z23 z24 z25 z26 z27 z28 z29 z30 z31 z32 z33 z36 z37 z38 z39 z40 z41 z42 z43 z44 z45 z46 z47 z48 z55 z56 z59 z60 z61 va vb vc (n + 1) f_1623 (by omega) F (by have h9 : kad vc 8 (kad vb 7 (kst n (kby vb 56))) = F := hF; rw [hst] at h9; exact h9) hC hr hlocks _ _ (kW.sub hw [0, 1] rfl rfl) _ (lv_sub hl [0, 3, 4, 5, 6] rfl)

set_option maxHeartbeats 4000000 in
set_option maxRecDepth 100000 in
theorem mf_7 {γ : kΓ} {l : Launch} {p : Program} {e : Env} {s : State} {m : MethodId} {below : List Frame} {meth : Method} {c : Code} {A : Nat → Prop} (z : Nat) (z2 : Nat) (z10 : Nat) (z11 : Nat) (z12 : Nat) (z13 : Nat) (z14 : Nat) (z15 : Nat) (z16 : Nat) (z17 : Nat) (z18 : Nat) (z19 : Nat) (z22 : Nat) (z23 : Nat) (z24 : Nat) (z25 : Nat) (z26 : Nat) (z27 : Nat) (z28 : Nat) (z29 : Nat) (z30 : Nat) (z31 : Nat) (z32 : Nat) (z33 : Nat) (z36 : Nat) (z37 : Nat) (z38 : Nat) (z39 : Nat) (z40 : Nat) (z41 : Nat) (z42 : Nat) (z43 : Nat) (z44 : Nat) (z45 : Nat) (z46 : Nat) (z47 : Nat) (z48 : Nat) (z55 : Nat) (z56 : Nat) (z59 : Nat) (z60 : Nat) (z61 : Nat) (va : Int64) (vb : Int64) (vc : Int64) (n : Nat) (f : Nat → Int32) (hn : n ≤ 1000) (F : Nat) (hF : kad vc 8 (kad vb 8 (kad va 1 n)) = F) (hC : kC γ p s m [.ref z, .long va, .long vb, .long vc].toArray c cX12_feed 11 RX12 A) (hr : meth.sig.returnType = (some .int)) (hlocks : meth.locks = false) (H : Heap) (locs : List Loc) (hw : kW γ A [(z, .inr (11, [.int 0, .int (nI n), .ref z2, .int 0, .int 0, .int 0, .int 0, .long 0, .int 0, .int 0, .ref z10, .ref z11, .ref z12, .ref z13, .ref z14, .ref z15, .ref z16, .ref z17, .ref z18, .ref z19, .int 0, .int 0, .ref z22, .ref z23, .ref z24, .ref z25, .ref z26, .ref z27, .ref z28, .ref z29, .ref z30, .ref z31, .ref z32, .ref z33, .int 0, .long 0, .ref z36, .ref z37, .ref z38, .ref z39, .ref z40, .ref z41, .ref z42, .ref z43, .ref z44, .ref z45, .ref z46, .ref z47, .ref z48, .int 0, .int 10, .int 0, .int 0, .int 0, .int 0, .ref z55, .ref z56, .int 0, .int 0, .ref z59, .ref z60, .ref z61, .int 0, .long 0])), (z2, .inl (γ.2.1 0, 1000, .inl f))] s H locs) (ls : Array Slot) (hl : lv_has ls 11 [(7, .int 7), (0, .ref z), (1, .long va), (3, .long vb), (5, .long vc)]) : W p l e ({ frames := 0, cells := 0, slots := 0, locals := 0 } : Room) s m [.ref z, .long va, .long vb, .long vc].toArray below meth c H locs 0 0 (MQ below (kQ γ A (fun r w1 => r = some (.int (nI F)) ∧ w1 = [])) [.ref z, .long va, .long vb, .long vc].toArray s 0 0 A) (F0 m 8 ls []) := by
  have hx := hC.1
  have hb := hC.2.1
  refine lv_iload hx hb dX12_feed_8 (lv_at hl 0 rfl) ?_
  refine lv_bipush (v := 24) hx hb dX12_feed_10 (by decide) ?_
  refine lv_icmp_ge (tgt := 120) hx hb dX12_feed_12 (by decide) (fun h => absurd h (by decide)) (fun _ => ?_)
  refine lv_iload hx hb dX12_feed_15 (lv_at hl 0 rfl) ?_
  refine lv_bipush (v := 8) hx hb dX12_feed_17 (by decide) ?_
  refine lv_icmp_ge (tgt := 26) hx hb dX12_feed_19 (by decide) (fun h => absurd h (by decide)) (fun _ => ?_)
  refine lv_lload_n hx hb dX12_feed_22 rfl (lv_at hl 2 rfl) ?_
  refine lv_goto (tgt := 39) hx hb dX12_feed_23 (by decide) ?_
  refine lv_lstore (lv' := [(8, .long va), (7, .int 7), (0, .ref z), (1, .long va), (3, .long vb), (5, .long vc)]) hx hb dX12_feed_39 hl (by decide) rfl (fun ls hl => ?_)
  refine lv_lload hx hb dX12_feed_41 (lv_at hl 0 rfl) ?_
  refine lv_bipush (v := 56) hx hb dX12_feed_43 (by decide) ?_
  refine lv_bipush (v := 8) hx hb dX12_feed_45 (by decide) ?_
  refine lv_iload hx hb dX12_feed_47 (lv_at hl 1 rfl) ?_
  refine lv_bipush (v := 7) hx hb dX12_feed_49 (by decide) ?_
  refine lv_iand hx hb dX12_feed_51 ?_
  refine lv_topi (fun x_1625 ex_1625 => ?_)
  obtain rfl : x_1625 = 7 := ex_1625.trans (by decide)
  refine lv_imul hx hb dX12_feed_52 ?_
  refine lv_topi (fun x_1626 ex_1626 => ?_)
  obtain rfl : x_1626 = 56 := ex_1626.trans (by decide)
  refine lv_isub hx hb dX12_feed_53 ?_
  refine lv_topi (fun x_1627 ex_1627 => ?_)
  obtain rfl : x_1627 = 0 := ex_1627.trans (by decide)
  refine lv_lushr hx hb dX12_feed_54 rfl ?_
  refine lv_topl (fun x_1628 ex_1628 => ?_)
  refine k_ldc2 hC gw_1393 dX12_feed_55 ?_
  refine lv_land hx hb dX12_feed_58 ?_
  refine lv_topl (fun x_1629 ex_1629 => ?_)
  refine lv_l2i hx hb dX12_feed_59 rfl ?_
  refine lv_topi (fun x_1630 ex_1630 => ?_)
  refine lv_istore (lv' := [(10, .int x_1630), (8, .long va), (7, .int 7), (0, .ref z), (1, .long va), (3, .long vb), (5, .long vc)]) hx hb dX12_feed_60 hl (by decide) rfl (fun ls hl => ?_)
  have hk : x_1630 = kby va 0 := by rw [ex_1630, ex_1629, k_land, ex_1628]; rfl
  refine lv_aload_n hx hb dX12_feed_62 rfl (lv_at hl 3 rfl) ?_
  refine fg_RX12_148 hC hw 0 rfl rfl dX12_feed_63 ?_
  refine lv_sipush (v := 1000) hx hb dX12_feed_66 (by decide) ?_
  refine lv_icmp_ge (tgt := 114) hx hb dX12_feed_69 (by decide) (fun c69 => ?_) (fun c69 => ?_)
  · have hfull : ¬ n < 1000 := fun h9 => absurd c69 (nI_ge h9 (by decide))
    refine lv_iinc (v := 8) (lv' := [(7, .int 8), (10, .int x_1630), (8, .long va), (0, .ref z), (1, .long va), (3, .long vb), (5, .long vc)]) hx hb dX12_feed_114 hl (k := 2) rfl (by decide) (by decide) rfl (fun ls hl => ?_)
    refine lv_goto (tgt := 8) hx hb dX12_feed_117 (by decide) ?_
    have hst : kst n (kby va 0) = n := by rw [← hk]; exact (by first | exact kst_full hfull | exact kst_a c76 hlt | exact kst_b c83 c90 hlt | exact kst_lo c76 c83 | exact kst_hi c76 c90)
    exact mf_8 z z2 z10 z11 z12 z13 z14 z15 z16 z17 z18 z19 z22 z23 z24 z25 z26 z27 z28 z29 z30 z31 z32 z33 z36 z37 z38 z39 z40 z41 z42 z43 z44 z45 z46 z47 z48 z55 z56 z59 z60 z61 va vb vc n f (by omega) F (by have h9 : kad vc 8 (kad vb 8 (kst n (kby va 0))) = F := hF; rw [hst] at h9; exact h9) hC hr hlocks _ _ (kW.sub hw [0, 1] rfl rfl) _ (lv_sub hl [0, 3, 4, 5, 6] rfl)
  · have hlt : n < 1000 := by rcases Nat.lt_or_ge n 1000 with h9 | h9; exact h9; exact absurd (nI_le h9 (by omega)) c69
    refine lv_iload hx hb dX12_feed_72 (lv_at hl 0 rfl) ?_
    refine lv_bipush (v := 10) hx hb dX12_feed_74 (by decide) ?_
    refine lv_icmp_eq (tgt := 93) hx hb dX12_feed_76 (by decide) (fun c76 => ?_) (fun c76 => ?_)
    · refine lv_aload_n hx hb dX12_feed_93 rfl (lv_at hl 3 rfl) ?_
      refine fg_RX12_7 hC hw 0 rfl rfl dX12_feed_94 ?_
      refine lv_aload_n hx hb dX12_feed_97 rfl (lv_at hl 3 rfl) ?_
      refine fg_RX12_148 hC hw 0 rfl rfl dX12_feed_98 ?_
      refine lv_iload hx hb dX12_feed_101 (lv_at hl 0 rfl) ?_
      refine k_iast hC hw 1 rfl (vp_in_nI hlt (by decide)) dX12_feed_103 (fun H locs hw => ?_)
      obtain ⟨f_1631, ef_1631⟩ : ∃ g, g = upd f ((nI n) : Int32).toNatClampNeg x_1630 := ⟨_, rfl⟩
      have hw : kW γ A [(z, .inr (11, [.int 0, .int (nI n), .ref z2, .int 0, .int 0, .int 0, .int 0, .long 0, .int 0, .int 0, .ref z10, .ref z11, .ref z12, .ref z13, .ref z14, .ref z15, .ref z16, .ref z17, .ref z18, .ref z19, .int 0, .int 0, .ref z22, .ref z23, .ref z24, .ref z25, .ref z26, .ref z27, .ref z28, .ref z29, .ref z30, .ref z31, .ref z32, .ref z33, .int 0, .long 0, .ref z36, .ref z37, .ref z38, .ref z39, .ref z40, .ref z41, .ref z42, .ref z43, .ref z44, .ref z45, .ref z46, .ref z47, .ref z48, .int 0, .int 10, .int 0, .int 0, .int 0, .int 0, .ref z55, .ref z56, .int 0, .int 0, .ref z59, .ref z60, .ref z61, .int 0, .long 0])), (z2, .inl (γ.2.1 0, 1000, .inl f_1631))] s H locs := by rw [ef_1631]; exact hw
      refine lv_aload_n hx hb dX12_feed_104 rfl (lv_at hl 3 rfl) ?_
      refine lv_dup hx hb dX12_feed_105 rfl ?_
      refine fg_RX12_148 hC hw 0 rfl rfl dX12_feed_106 ?_
      refine lv_iconst (v := 1) hx hb dX12_feed_109 (by decide) ?_
      refine lv_iadd hx hb dX12_feed_110 ?_
      refine lv_topi (fun x_1632 ex_1632 => ?_)
      obtain rfl : x_1632 = (nI (n + 1)) := ex_1632.trans (nI_1 n)
      refine fs_RX12_148 hC hw 0 rfl rfl rfl (Nat.le_of_ble_eq_true rfl) dX12_feed_111 (fun H locs hw => ?_)
      have hw : kW γ A [(z, .inr (11, [.int 0, .int (nI (n + 1)), .ref z2, .int 0, .int 0, .int 0, .int 0, .long 0, .int 0, .int 0, .ref z10, .ref z11, .ref z12, .ref z13, .ref z14, .ref z15, .ref z16, .ref z17, .ref z18, .ref z19, .int 0, .int 0, .ref z22, .ref z23, .ref z24, .ref z25, .ref z26, .ref z27, .ref z28, .ref z29, .ref z30, .ref z31, .ref z32, .ref z33, .int 0, .long 0, .ref z36, .ref z37, .ref z38, .ref z39, .ref z40, .ref z41, .ref z42, .ref z43, .ref z44, .ref z45, .ref z46, .ref z47, .ref z48, .int 0, .int 10, .int 0, .int 0, .int 0, .int 0, .ref z55, .ref z56, .int 0, .int 0, .ref z59, .ref z60, .ref z61, .int 0, .long 0])), (z2, .inl (γ.2.1 0, 1000, .inl f_1631))] s H locs := hw
      refine lv_iinc (v := 8) (lv' := [(7, .int 8), (10, .int x_1630), (8, .long va), (0, .ref z), (1, .long va), (3, .long vb), (5, .long vc)]) hx hb dX12_feed_114 hl (k := 2) rfl (by decide) (by decide) rfl (fun ls hl => ?_)
      refine lv_goto (tgt := 8) hx hb dX12_feed_117 (by decide) ?_
      have hst : kst n (kby va 0) = (n + 1) := by rw [← hk]; exact (by first | exact kst_full hfull | exact kst_a c76 hlt | exact kst_b c83 c90 hlt | exact kst_lo c76 c83 | exact kst_hi c76 c90)
      exact mf_8 z z2 z10 z11 z12 z13 z14 z15 z16 z17 z18 z19 z22 z23 z24 z25 z26 z27 z28 z29 z30 z31 z32 z33 z36 z37 z38 z39 z40 z41 z42 z43 z44 z45 z46 z47 z48 z55 z56 z59 z60 z61 va vb vc (n + 1) f_1631 (by omega) F (by have h9 : kad vc 8 (kad vb 8 (kst n (kby va 0))) = F := hF; rw [hst] at h9; exact h9) hC hr hlocks _ _ (kW.sub hw [0, 1] rfl rfl) _ (lv_sub hl [0, 3, 4, 5, 6] rfl)
    · refine lv_iload hx hb dX12_feed_79 (lv_at hl 0 rfl) ?_
      refine lv_bipush (v := 32) hx hb dX12_feed_81 (by decide) ?_
      refine lv_icmp_lt (tgt := 114) hx hb dX12_feed_83 (by decide) (fun c83 => ?_) (fun c83 => ?_)
      · refine lv_iinc (v := 8) (lv' := [(7, .int 8), (10, .int x_1630), (8, .long va), (0, .ref z), (1, .long va), (3, .long vb), (5, .long vc)]) hx hb dX12_feed_114 hl (k := 2) rfl (by decide) (by decide) rfl (fun ls hl => ?_)
        refine lv_goto (tgt := 8) hx hb dX12_feed_117 (by decide) ?_
        have hst : kst n (kby va 0) = n := by rw [← hk]; exact (by first | exact kst_full hfull | exact kst_a c76 hlt | exact kst_b c83 c90 hlt | exact kst_lo c76 c83 | exact kst_hi c76 c90)
        exact mf_8 z z2 z10 z11 z12 z13 z14 z15 z16 z17 z18 z19 z22 z23 z24 z25 z26 z27 z28 z29 z30 z31 z32 z33 z36 z37 z38 z39 z40 z41 z42 z43 z44 z45 z46 z47 z48 z55 z56 z59 z60 z61 va vb vc n f (by omega) F (by have h9 : kad vc 8 (kad vb 8 (kst n (kby va 0))) = F := hF; rw [hst] at h9; exact h9) hC hr hlocks _ _ (kW.sub hw [0, 1] rfl rfl) _ (lv_sub hl [0, 3, 4, 5, 6] rfl)
      · refine lv_iload hx hb dX12_feed_86 (lv_at hl 0 rfl) ?_
        refine lv_bipush (v := 126) hx hb dX12_feed_88 (by decide) ?_
        refine lv_icmp_gt (tgt := 114) hx hb dX12_feed_90 (by decide) (fun c90 => ?_) (fun c90 => ?_)
        · refine lv_iinc (v := 8) (lv' := [(7, .int 8), (10, .int x_1630), (8, .long va), (0, .ref z), (1, .long va), (3, .long vb), (5, .long vc)]) hx hb dX12_feed_114 hl (k := 2) rfl (by decide) (by decide) rfl (fun ls hl => ?_)
          refine lv_goto (tgt := 8) hx hb dX12_feed_117 (by decide) ?_
          have hst : kst n (kby va 0) = n := by rw [← hk]; exact (by first | exact kst_full hfull | exact kst_a c76 hlt | exact kst_b c83 c90 hlt | exact kst_lo c76 c83 | exact kst_hi c76 c90)
          exact mf_8 z z2 z10 z11 z12 z13 z14 z15 z16 z17 z18 z19 z22 z23 z24 z25 z26 z27 z28 z29 z30 z31 z32 z33 z36 z37 z38 z39 z40 z41 z42 z43 z44 z45 z46 z47 z48 z55 z56 z59 z60 z61 va vb vc n f (by omega) F (by have h9 : kad vc 8 (kad vb 8 (kst n (kby va 0))) = F := hF; rw [hst] at h9; exact h9) hC hr hlocks _ _ (kW.sub hw [0, 1] rfl rfl) _ (lv_sub hl [0, 3, 4, 5, 6] rfl)
        · refine lv_aload_n hx hb dX12_feed_93 rfl (lv_at hl 3 rfl) ?_
          refine fg_RX12_7 hC hw 0 rfl rfl dX12_feed_94 ?_
          refine lv_aload_n hx hb dX12_feed_97 rfl (lv_at hl 3 rfl) ?_
          refine fg_RX12_148 hC hw 0 rfl rfl dX12_feed_98 ?_
          refine lv_iload hx hb dX12_feed_101 (lv_at hl 0 rfl) ?_
          refine k_iast hC hw 1 rfl (vp_in_nI hlt (by decide)) dX12_feed_103 (fun H locs hw => ?_)
          obtain ⟨f_1633, ef_1633⟩ : ∃ g, g = upd f ((nI n) : Int32).toNatClampNeg x_1630 := ⟨_, rfl⟩
          have hw : kW γ A [(z, .inr (11, [.int 0, .int (nI n), .ref z2, .int 0, .int 0, .int 0, .int 0, .long 0, .int 0, .int 0, .ref z10, .ref z11, .ref z12, .ref z13, .ref z14, .ref z15, .ref z16, .ref z17, .ref z18, .ref z19, .int 0, .int 0, .ref z22, .ref z23, .ref z24, .ref z25, .ref z26, .ref z27, .ref z28, .ref z29, .ref z30, .ref z31, .ref z32, .ref z33, .int 0, .long 0, .ref z36, .ref z37, .ref z38, .ref z39, .ref z40, .ref z41, .ref z42, .ref z43, .ref z44, .ref z45, .ref z46, .ref z47, .ref z48, .int 0, .int 10, .int 0, .int 0, .int 0, .int 0, .ref z55, .ref z56, .int 0, .int 0, .ref z59, .ref z60, .ref z61, .int 0, .long 0])), (z2, .inl (γ.2.1 0, 1000, .inl f_1633))] s H locs := by rw [ef_1633]; exact hw
          refine lv_aload_n hx hb dX12_feed_104 rfl (lv_at hl 3 rfl) ?_
          refine lv_dup hx hb dX12_feed_105 rfl ?_
          refine fg_RX12_148 hC hw 0 rfl rfl dX12_feed_106 ?_
          refine lv_iconst (v := 1) hx hb dX12_feed_109 (by decide) ?_
          refine lv_iadd hx hb dX12_feed_110 ?_
          refine lv_topi (fun x_1634 ex_1634 => ?_)
          obtain rfl : x_1634 = (nI (n + 1)) := ex_1634.trans (nI_1 n)
          refine fs_RX12_148 hC hw 0 rfl rfl rfl (Nat.le_of_ble_eq_true rfl) dX12_feed_111 (fun H locs hw => ?_)
          have hw : kW γ A [(z, .inr (11, [.int 0, .int (nI (n + 1)), .ref z2, .int 0, .int 0, .int 0, .int 0, .long 0, .int 0, .int 0, .ref z10, .ref z11, .ref z12, .ref z13, .ref z14, .ref z15, .ref z16, .ref z17, .ref z18, .ref z19, .int 0, .int 0, .ref z22, .ref z23, .ref z24, .ref z25, .ref z26, .ref z27, .ref z28, .ref z29, .ref z30, .ref z31, .ref z32, .ref z33, .int 0, .long 0, .ref z36, .ref z37, .ref z38, .ref z39, .ref z40, .ref z41, .ref z42, .ref z43, .ref z44, .ref z45, .ref z46, .ref z47, .ref z48, .int 0, .int 10, .int 0, .int 0, .int 0, .int 0, .ref z55, .ref z56, .int 0, .int 0, .ref z59, .ref z60, .ref z61, .int 0, .long 0])), (z2, .inl (γ.2.1 0, 1000, .inl f_1633))] s H locs := hw
          refine lv_iinc (v := 8) (lv' := [(7, .int 8), (10, .int x_1630), (8, .long va), (0, .ref z), (1, .long va), (3, .long vb), (5, .long vc)]) hx hb dX12_feed_114 hl (k := 2) rfl (by decide) (by decide) rfl (fun ls hl => ?_)
          refine lv_goto (tgt := 8) hx hb dX12_feed_117 (by decide) ?_
          have hst : kst n (kby va 0) = (n + 1) := by rw [← hk]; exact (by first | exact kst_full hfull | exact kst_a c76 hlt | exact kst_b c83 c90 hlt | exact kst_lo c76 c83 | exact kst_hi c76 c90)
          exact mf_8 z z2 z10 z11 z12 z13 z14 z15 z16 z17 z18 z19 z22 z23 z24 z25 z26 z27 z28 z29 z30 z31 z32 z33 z36 z37 z38 z39 z40 z41 z42 z43 z44 z45 z46 z47 z48 z55 z56 z59 z60 z61 va vb vc (n + 1) f_1633 (by omega) F (by have h9 : kad vc 8 (kad vb 8 (kst n (kby va 0))) = F := hF; rw [hst] at h9; exact h9) hC hr hlocks _ _ (kW.sub hw [0, 1] rfl rfl) _ (lv_sub hl [0, 3, 4, 5, 6] rfl)

set_option maxHeartbeats 4000000 in
set_option maxRecDepth 100000 in
theorem mf_6 {γ : kΓ} {l : Launch} {p : Program} {e : Env} {s : State} {m : MethodId} {below : List Frame} {meth : Method} {c : Code} {A : Nat → Prop} (z : Nat) (z2 : Nat) (z10 : Nat) (z11 : Nat) (z12 : Nat) (z13 : Nat) (z14 : Nat) (z15 : Nat) (z16 : Nat) (z17 : Nat) (z18 : Nat) (z19 : Nat) (z22 : Nat) (z23 : Nat) (z24 : Nat) (z25 : Nat) (z26 : Nat) (z27 : Nat) (z28 : Nat) (z29 : Nat) (z30 : Nat) (z31 : Nat) (z32 : Nat) (z33 : Nat) (z36 : Nat) (z37 : Nat) (z38 : Nat) (z39 : Nat) (z40 : Nat) (z41 : Nat) (z42 : Nat) (z43 : Nat) (z44 : Nat) (z45 : Nat) (z46 : Nat) (z47 : Nat) (z48 : Nat) (z55 : Nat) (z56 : Nat) (z59 : Nat) (z60 : Nat) (z61 : Nat) (va : Int64) (vb : Int64) (vc : Int64) (n : Nat) (f : Nat → Int32) (hn : n ≤ 1000) (F : Nat) (hF : kad vc 8 (kad vb 8 (kad va 2 n)) = F) (hC : kC γ p s m [.ref z, .long va, .long vb, .long vc].toArray c cX12_feed 11 RX12 A) (hr : meth.sig.returnType = (some .int)) (hlocks : meth.locks = false) (H : Heap) (locs : List Loc) (hw : kW γ A [(z, .inr (11, [.int 0, .int (nI n), .ref z2, .int 0, .int 0, .int 0, .int 0, .long 0, .int 0, .int 0, .ref z10, .ref z11, .ref z12, .ref z13, .ref z14, .ref z15, .ref z16, .ref z17, .ref z18, .ref z19, .int 0, .int 0, .ref z22, .ref z23, .ref z24, .ref z25, .ref z26, .ref z27, .ref z28, .ref z29, .ref z30, .ref z31, .ref z32, .ref z33, .int 0, .long 0, .ref z36, .ref z37, .ref z38, .ref z39, .ref z40, .ref z41, .ref z42, .ref z43, .ref z44, .ref z45, .ref z46, .ref z47, .ref z48, .int 0, .int 10, .int 0, .int 0, .int 0, .int 0, .ref z55, .ref z56, .int 0, .int 0, .ref z59, .ref z60, .ref z61, .int 0, .long 0])), (z2, .inl (γ.2.1 0, 1000, .inl f))] s H locs) (ls : Array Slot) (hl : lv_has ls 11 [(7, .int 6), (0, .ref z), (1, .long va), (3, .long vb), (5, .long vc)]) : W p l e ({ frames := 0, cells := 0, slots := 0, locals := 0 } : Room) s m [.ref z, .long va, .long vb, .long vc].toArray below meth c H locs 0 0 (MQ below (kQ γ A (fun r w1 => r = some (.int (nI F)) ∧ w1 = [])) [.ref z, .long va, .long vb, .long vc].toArray s 0 0 A) (F0 m 8 ls []) := by
  have hx := hC.1
  have hb := hC.2.1
  refine lv_iload hx hb dX12_feed_8 (lv_at hl 0 rfl) ?_
  refine lv_bipush (v := 24) hx hb dX12_feed_10 (by decide) ?_
  refine lv_icmp_ge (tgt := 120) hx hb dX12_feed_12 (by decide) (fun h => absurd h (by decide)) (fun _ => ?_)
  refine lv_iload hx hb dX12_feed_15 (lv_at hl 0 rfl) ?_
  refine lv_bipush (v := 8) hx hb dX12_feed_17 (by decide) ?_
  refine lv_icmp_ge (tgt := 26) hx hb dX12_feed_19 (by decide) (fun h => absurd h (by decide)) (fun _ => ?_)
  refine lv_lload_n hx hb dX12_feed_22 rfl (lv_at hl 2 rfl) ?_
  refine lv_goto (tgt := 39) hx hb dX12_feed_23 (by decide) ?_
  refine lv_lstore (lv' := [(8, .long va), (7, .int 6), (0, .ref z), (1, .long va), (3, .long vb), (5, .long vc)]) hx hb dX12_feed_39 hl (by decide) rfl (fun ls hl => ?_)
  refine lv_lload hx hb dX12_feed_41 (lv_at hl 0 rfl) ?_
  refine lv_bipush (v := 56) hx hb dX12_feed_43 (by decide) ?_
  refine lv_bipush (v := 8) hx hb dX12_feed_45 (by decide) ?_
  refine lv_iload hx hb dX12_feed_47 (lv_at hl 1 rfl) ?_
  refine lv_bipush (v := 7) hx hb dX12_feed_49 (by decide) ?_
  refine lv_iand hx hb dX12_feed_51 ?_
  refine lv_topi (fun x_1635 ex_1635 => ?_)
  obtain rfl : x_1635 = 6 := ex_1635.trans (by decide)
  refine lv_imul hx hb dX12_feed_52 ?_
  refine lv_topi (fun x_1636 ex_1636 => ?_)
  obtain rfl : x_1636 = 48 := ex_1636.trans (by decide)
  refine lv_isub hx hb dX12_feed_53 ?_
  refine lv_topi (fun x_1637 ex_1637 => ?_)
  obtain rfl : x_1637 = 8 := ex_1637.trans (by decide)
  refine lv_lushr hx hb dX12_feed_54 rfl ?_
  refine lv_topl (fun x_1638 ex_1638 => ?_)
  refine k_ldc2 hC gw_1393 dX12_feed_55 ?_
  refine lv_land hx hb dX12_feed_58 ?_
  refine lv_topl (fun x_1639 ex_1639 => ?_)
  refine lv_l2i hx hb dX12_feed_59 rfl ?_
  refine lv_topi (fun x_1640 ex_1640 => ?_)
  refine lv_istore (lv' := [(10, .int x_1640), (8, .long va), (7, .int 6), (0, .ref z), (1, .long va), (3, .long vb), (5, .long vc)]) hx hb dX12_feed_60 hl (by decide) rfl (fun ls hl => ?_)
  have hk : x_1640 = kby va 8 := by rw [ex_1640, ex_1639, k_land, ex_1638]; rfl
  refine lv_aload_n hx hb dX12_feed_62 rfl (lv_at hl 3 rfl) ?_
  refine fg_RX12_148 hC hw 0 rfl rfl dX12_feed_63 ?_
  refine lv_sipush (v := 1000) hx hb dX12_feed_66 (by decide) ?_
  refine lv_icmp_ge (tgt := 114) hx hb dX12_feed_69 (by decide) (fun c69 => ?_) (fun c69 => ?_)
  · have hfull : ¬ n < 1000 := fun h9 => absurd c69 (nI_ge h9 (by decide))
    refine lv_iinc (v := 7) (lv' := [(7, .int 7), (10, .int x_1640), (8, .long va), (0, .ref z), (1, .long va), (3, .long vb), (5, .long vc)]) hx hb dX12_feed_114 hl (k := 2) rfl (by decide) (by decide) rfl (fun ls hl => ?_)
    refine lv_goto (tgt := 8) hx hb dX12_feed_117 (by decide) ?_
    have hst : kst n (kby va 8) = n := by rw [← hk]; exact (by first | exact kst_full hfull | exact kst_a c76 hlt | exact kst_b c83 c90 hlt | exact kst_lo c76 c83 | exact kst_hi c76 c90)
    exact mf_7 z z2 z10 z11 z12 z13 z14 z15 z16 z17 z18 z19 z22 z23 z24 z25 z26 z27 z28 z29 z30 z31 z32 z33 z36 z37 z38 z39 z40 z41 z42 z43 z44 z45 z46 z47 z48 z55 z56 z59 z60 z61 va vb vc n f (by omega) F (by have h9 : kad vc 8 (kad vb 8 (kad va 1 (kst n (kby va 8)))) = F := hF; rw [hst] at h9; exact h9) hC hr hlocks _ _ (kW.sub hw [0, 1] rfl rfl) _ (lv_sub hl [0, 3, 4, 5, 6] rfl)
  · have hlt : n < 1000 := by rcases Nat.lt_or_ge n 1000 with h9 | h9; exact h9; exact absurd (nI_le h9 (by omega)) c69
    refine lv_iload hx hb dX12_feed_72 (lv_at hl 0 rfl) ?_
    refine lv_bipush (v := 10) hx hb dX12_feed_74 (by decide) ?_
    refine lv_icmp_eq (tgt := 93) hx hb dX12_feed_76 (by decide) (fun c76 => ?_) (fun c76 => ?_)
    · refine lv_aload_n hx hb dX12_feed_93 rfl (lv_at hl 3 rfl) ?_
      refine fg_RX12_7 hC hw 0 rfl rfl dX12_feed_94 ?_
      refine lv_aload_n hx hb dX12_feed_97 rfl (lv_at hl 3 rfl) ?_
      refine fg_RX12_148 hC hw 0 rfl rfl dX12_feed_98 ?_
      refine lv_iload hx hb dX12_feed_101 (lv_at hl 0 rfl) ?_
      refine k_iast hC hw 1 rfl (vp_in_nI hlt (by decide)) dX12_feed_103 (fun H locs hw => ?_)
      obtain ⟨f_1641, ef_1641⟩ : ∃ g, g = upd f ((nI n) : Int32).toNatClampNeg x_1640 := ⟨_, rfl⟩
      have hw : kW γ A [(z, .inr (11, [.int 0, .int (nI n), .ref z2, .int 0, .int 0, .int 0, .int 0, .long 0, .int 0, .int 0, .ref z10, .ref z11, .ref z12, .ref z13, .ref z14, .ref z15, .ref z16, .ref z17, .ref z18, .ref z19, .int 0, .int 0, .ref z22, .ref z23, .ref z24, .ref z25, .ref z26, .ref z27, .ref z28, .ref z29, .ref z30, .ref z31, .ref z32, .ref z33, .int 0, .long 0, .ref z36, .ref z37, .ref z38, .ref z39, .ref z40, .ref z41, .ref z42, .ref z43, .ref z44, .ref z45, .ref z46, .ref z47, .ref z48, .int 0, .int 10, .int 0, .int 0, .int 0, .int 0, .ref z55, .ref z56, .int 0, .int 0, .ref z59, .ref z60, .ref z61, .int 0, .long 0])), (z2, .inl (γ.2.1 0, 1000, .inl f_1641))] s H locs := by rw [ef_1641]; exact hw
      refine lv_aload_n hx hb dX12_feed_104 rfl (lv_at hl 3 rfl) ?_
      refine lv_dup hx hb dX12_feed_105 rfl ?_
      refine fg_RX12_148 hC hw 0 rfl rfl dX12_feed_106 ?_
      refine lv_iconst (v := 1) hx hb dX12_feed_109 (by decide) ?_
      refine lv_iadd hx hb dX12_feed_110 ?_
      refine lv_topi (fun x_1642 ex_1642 => ?_)
      obtain rfl : x_1642 = (nI (n + 1)) := ex_1642.trans (nI_1 n)
      refine fs_RX12_148 hC hw 0 rfl rfl rfl (Nat.le_of_ble_eq_true rfl) dX12_feed_111 (fun H locs hw => ?_)
      have hw : kW γ A [(z, .inr (11, [.int 0, .int (nI (n + 1)), .ref z2, .int 0, .int 0, .int 0, .int 0, .long 0, .int 0, .int 0, .ref z10, .ref z11, .ref z12, .ref z13, .ref z14, .ref z15, .ref z16, .ref z17, .ref z18, .ref z19, .int 0, .int 0, .ref z22, .ref z23, .ref z24, .ref z25, .ref z26, .ref z27, .ref z28, .ref z29, .ref z30, .ref z31, .ref z32, .ref z33, .int 0, .long 0, .ref z36, .ref z37, .ref z38, .ref z39, .ref z40, .ref z41, .ref z42, .ref z43, .ref z44, .ref z45, .ref z46, .ref z47, .ref z48, .int 0, .int 10, .int 0, .int 0, .int 0, .int 0, .ref z55, .ref z56, .int 0, .int 0, .ref z59, .ref z60, .ref z61, .int 0, .long 0])), (z2, .inl (γ.2.1 0, 1000, .inl f_1641))] s H locs := hw
      refine lv_iinc (v := 7) (lv' := [(7, .int 7), (10, .int x_1640), (8, .long va), (0, .ref z), (1, .long va), (3, .long vb), (5, .long vc)]) hx hb dX12_feed_114 hl (k := 2) rfl (by decide) (by decide) rfl (fun ls hl => ?_)
      refine lv_goto (tgt := 8) hx hb dX12_feed_117 (by decide) ?_
      have hst : kst n (kby va 8) = (n + 1) := by rw [← hk]; exact (by first | exact kst_full hfull | exact kst_a c76 hlt | exact kst_b c83 c90 hlt | exact kst_lo c76 c83 | exact kst_hi c76 c90)
      exact mf_7 z z2 z10 z11 z12 z13 z14 z15 z16 z17 z18 z19 z22 z23 z24 z25 z26 z27 z28 z29 z30 z31 z32 z33 z36 z37 z38 z39 z40 z41 z42 z43 z44 z45 z46 z47 z48 z55 z56 z59 z60 z61 va vb vc (n + 1) f_1641 (by omega) F (by have h9 : kad vc 8 (kad vb 8 (kad va 1 (kst n (kby va 8)))) = F := hF; rw [hst] at h9; exact h9) hC hr hlocks _ _ (kW.sub hw [0, 1] rfl rfl) _ (lv_sub hl [0, 3, 4, 5, 6] rfl)
    · refine lv_iload hx hb dX12_feed_79 (lv_at hl 0 rfl) ?_
      refine lv_bipush (v := 32) hx hb dX12_feed_81 (by decide) ?_
      refine lv_icmp_lt (tgt := 114) hx hb dX12_feed_83 (by decide) (fun c83 => ?_) (fun c83 => ?_)
      · refine lv_iinc (v := 7) (lv' := [(7, .int 7), (10, .int x_1640), (8, .long va), (0, .ref z), (1, .long va), (3, .long vb), (5, .long vc)]) hx hb dX12_feed_114 hl (k := 2) rfl (by decide) (by decide) rfl (fun ls hl => ?_)
        refine lv_goto (tgt := 8) hx hb dX12_feed_117 (by decide) ?_
        have hst : kst n (kby va 8) = n := by rw [← hk]; exact (by first | exact kst_full hfull | exact kst_a c76 hlt | exact kst_b c83 c90 hlt | exact kst_lo c76 c83 | exact kst_hi c76 c90)
        exact mf_7 z z2 z10 z11 z12 z13 z14 z15 z16 z17 z18 z19 z22 z23 z24 z25 z26 z27 z28 z29 z30 z31 z32 z33 z36 z37 z38 z39 z40 z41 z42 z43 z44 z45 z46 z47 z48 z55 z56 z59 z60 z61 va vb vc n f (by omega) F (by have h9 : kad vc 8 (kad vb 8 (kad va 1 (kst n (kby va 8)))) = F := hF; rw [hst] at h9; exact h9) hC hr hlocks _ _ (kW.sub hw [0, 1] rfl rfl) _ (lv_sub hl [0, 3, 4, 5, 6] rfl)
      · refine lv_iload hx hb dX12_feed_86 (lv_at hl 0 rfl) ?_
        refine lv_bipush (v := 126) hx hb dX12_feed_88 (by decide) ?_
        refine lv_icmp_gt (tgt := 114) hx hb dX12_feed_90 (by decide) (fun c90 => ?_) (fun c90 => ?_)
        · refine lv_iinc (v := 7) (lv' := [(7, .int 7), (10, .int x_1640), (8, .long va), (0, .ref z), (1, .long va), (3, .long vb), (5, .long vc)]) hx hb dX12_feed_114 hl (k := 2) rfl (by decide) (by decide) rfl (fun ls hl => ?_)
          refine lv_goto (tgt := 8) hx hb dX12_feed_117 (by decide) ?_
          have hst : kst n (kby va 8) = n := by rw [← hk]; exact (by first | exact kst_full hfull | exact kst_a c76 hlt | exact kst_b c83 c90 hlt | exact kst_lo c76 c83 | exact kst_hi c76 c90)
          exact mf_7 z z2 z10 z11 z12 z13 z14 z15 z16 z17 z18 z19 z22 z23 z24 z25 z26 z27 z28 z29 z30 z31 z32 z33 z36 z37 z38 z39 z40 z41 z42 z43 z44 z45 z46 z47 z48 z55 z56 z59 z60 z61 va vb vc n f (by omega) F (by have h9 : kad vc 8 (kad vb 8 (kad va 1 (kst n (kby va 8)))) = F := hF; rw [hst] at h9; exact h9) hC hr hlocks _ _ (kW.sub hw [0, 1] rfl rfl) _ (lv_sub hl [0, 3, 4, 5, 6] rfl)
        · refine lv_aload_n hx hb dX12_feed_93 rfl (lv_at hl 3 rfl) ?_
          refine fg_RX12_7 hC hw 0 rfl rfl dX12_feed_94 ?_
          refine lv_aload_n hx hb dX12_feed_97 rfl (lv_at hl 3 rfl) ?_
          refine fg_RX12_148 hC hw 0 rfl rfl dX12_feed_98 ?_
          refine lv_iload hx hb dX12_feed_101 (lv_at hl 0 rfl) ?_
          refine k_iast hC hw 1 rfl (vp_in_nI hlt (by decide)) dX12_feed_103 (fun H locs hw => ?_)
          obtain ⟨f_1643, ef_1643⟩ : ∃ g, g = upd f ((nI n) : Int32).toNatClampNeg x_1640 := ⟨_, rfl⟩
          have hw : kW γ A [(z, .inr (11, [.int 0, .int (nI n), .ref z2, .int 0, .int 0, .int 0, .int 0, .long 0, .int 0, .int 0, .ref z10, .ref z11, .ref z12, .ref z13, .ref z14, .ref z15, .ref z16, .ref z17, .ref z18, .ref z19, .int 0, .int 0, .ref z22, .ref z23, .ref z24, .ref z25, .ref z26, .ref z27, .ref z28, .ref z29, .ref z30, .ref z31, .ref z32, .ref z33, .int 0, .long 0, .ref z36, .ref z37, .ref z38, .ref z39, .ref z40, .ref z41, .ref z42, .ref z43, .ref z44, .ref z45, .ref z46, .ref z47, .ref z48, .int 0, .int 10, .int 0, .int 0, .int 0, .int 0, .ref z55, .ref z56, .int 0, .int 0, .ref z59, .ref z60, .ref z61, .int 0, .long 0])), (z2, .inl (γ.2.1 0, 1000, .inl f_1643))] s H locs := by rw [ef_1643]; exact hw
          refine lv_aload_n hx hb dX12_feed_104 rfl (lv_at hl 3 rfl) ?_
          refine lv_dup hx hb dX12_feed_105 rfl ?_
          refine fg_RX12_148 hC hw 0 rfl rfl dX12_feed_106 ?_
          refine lv_iconst (v := 1) hx hb dX12_feed_109 (by decide) ?_
          refine lv_iadd hx hb dX12_feed_110 ?_
          refine lv_topi (fun x_1644 ex_1644 => ?_)
          obtain rfl : x_1644 = (nI (n + 1)) := ex_1644.trans (nI_1 n)
          refine fs_RX12_148 hC hw 0 rfl rfl rfl (Nat.le_of_ble_eq_true rfl) dX12_feed_111 (fun H locs hw => ?_)
          have hw : kW γ A [(z, .inr (11, [.int 0, .int (nI (n + 1)), .ref z2, .int 0, .int 0, .int 0, .int 0, .long 0, .int 0, .int 0, .ref z10, .ref z11, .ref z12, .ref z13, .ref z14, .ref z15, .ref z16, .ref z17, .ref z18, .ref z19, .int 0, .int 0, .ref z22, .ref z23, .ref z24, .ref z25, .ref z26, .ref z27, .ref z28, .ref z29, .ref z30, .ref z31, .ref z32, .ref z33, .int 0, .long 0, .ref z36, .ref z37, .ref z38, .ref z39, .ref z40, .ref z41, .ref z42, .ref z43, .ref z44, .ref z45, .ref z46, .ref z47, .ref z48, .int 0, .int 10, .int 0, .int 0, .int 0, .int 0, .ref z55, .ref z56, .int 0, .int 0, .ref z59, .ref z60, .ref z61, .int 0, .long 0])), (z2, .inl (γ.2.1 0, 1000, .inl f_1643))] s H locs := hw
          refine lv_iinc (v := 7) (lv' := [(7, .int 7), (10, .int x_1640), (8, .long va), (0, .ref z), (1, .long va), (3, .long vb), (5, .long vc)]) hx hb dX12_feed_114 hl (k := 2) rfl (by decide) (by decide) rfl (fun ls hl => ?_)
          refine lv_goto (tgt := 8) hx hb dX12_feed_117 (by decide) ?_
          have hst : kst n (kby va 8) = (n + 1) := by rw [← hk]; exact (by first | exact kst_full hfull | exact kst_a c76 hlt | exact kst_b c83 c90 hlt | exact kst_lo c76 c83 | exact kst_hi c76 c90)
          exact mf_7 z z2 z10 z11 z12 z13 z14 z15 z16 z17 z18 z19 z22 z23 z24 z25 z26 z27 z28 z29 z30 z31 z32 z33 z36 z37 z38 z39 z40 z41 z42 z43 z44 z45 z46 z47 z48 z55 z56 z59 z60 z61 va vb vc (n + 1) f_1643 (by omega) F (by have h9 : kad vc 8 (kad vb 8 (kad va 1 (kst n (kby va 8)))) = F := hF; rw [hst] at h9; exact h9) hC hr hlocks _ _ (kW.sub hw [0, 1] rfl rfl) _ (lv_sub hl [0, 3, 4, 5, 6] rfl)

set_option maxHeartbeats 4000000 in
set_option maxRecDepth 100000 in
theorem mf_5 {γ : kΓ} {l : Launch} {p : Program} {e : Env} {s : State} {m : MethodId} {below : List Frame} {meth : Method} {c : Code} {A : Nat → Prop} (z : Nat) (z2 : Nat) (z10 : Nat) (z11 : Nat) (z12 : Nat) (z13 : Nat) (z14 : Nat) (z15 : Nat) (z16 : Nat) (z17 : Nat) (z18 : Nat) (z19 : Nat) (z22 : Nat) (z23 : Nat) (z24 : Nat) (z25 : Nat) (z26 : Nat) (z27 : Nat) (z28 : Nat) (z29 : Nat) (z30 : Nat) (z31 : Nat) (z32 : Nat) (z33 : Nat) (z36 : Nat) (z37 : Nat) (z38 : Nat) (z39 : Nat) (z40 : Nat) (z41 : Nat) (z42 : Nat) (z43 : Nat) (z44 : Nat) (z45 : Nat) (z46 : Nat) (z47 : Nat) (z48 : Nat) (z55 : Nat) (z56 : Nat) (z59 : Nat) (z60 : Nat) (z61 : Nat) (va : Int64) (vb : Int64) (vc : Int64) (n : Nat) (f : Nat → Int32) (hn : n ≤ 1000) (F : Nat) (hF : kad vc 8 (kad vb 8 (kad va 3 n)) = F) (hC : kC γ p s m [.ref z, .long va, .long vb, .long vc].toArray c cX12_feed 11 RX12 A) (hr : meth.sig.returnType = (some .int)) (hlocks : meth.locks = false) (H : Heap) (locs : List Loc) (hw : kW γ A [(z, .inr (11, [.int 0, .int (nI n), .ref z2, .int 0, .int 0, .int 0, .int 0, .long 0, .int 0, .int 0, .ref z10, .ref z11, .ref z12, .ref z13, .ref z14, .ref z15, .ref z16, .ref z17, .ref z18, .ref z19, .int 0, .int 0, .ref z22, .ref z23, .ref z24, .ref z25, .ref z26, .ref z27, .ref z28, .ref z29, .ref z30, .ref z31, .ref z32, .ref z33, .int 0, .long 0, .ref z36, .ref z37, .ref z38, .ref z39, .ref z40, .ref z41, .ref z42, .ref z43, .ref z44, .ref z45, .ref z46, .ref z47, .ref z48, .int 0, .int 10, .int 0, .int 0, .int 0, .int 0, .ref z55, .ref z56, .int 0, .int 0, .ref z59, .ref z60, .ref z61, .int 0, .long 0])), (z2, .inl (γ.2.1 0, 1000, .inl f))] s H locs) (ls : Array Slot) (hl : lv_has ls 11 [(7, .int 5), (0, .ref z), (1, .long va), (3, .long vb), (5, .long vc)]) : W p l e ({ frames := 0, cells := 0, slots := 0, locals := 0 } : Room) s m [.ref z, .long va, .long vb, .long vc].toArray below meth c H locs 0 0 (MQ below (kQ γ A (fun r w1 => r = some (.int (nI F)) ∧ w1 = [])) [.ref z, .long va, .long vb, .long vc].toArray s 0 0 A) (F0 m 8 ls []) := by
  have hx := hC.1
  have hb := hC.2.1
  refine lv_iload hx hb dX12_feed_8 (lv_at hl 0 rfl) ?_
  refine lv_bipush (v := 24) hx hb dX12_feed_10 (by decide) ?_
  refine lv_icmp_ge (tgt := 120) hx hb dX12_feed_12 (by decide) (fun h => absurd h (by decide)) (fun _ => ?_)
  refine lv_iload hx hb dX12_feed_15 (lv_at hl 0 rfl) ?_
  refine lv_bipush (v := 8) hx hb dX12_feed_17 (by decide) ?_
  refine lv_icmp_ge (tgt := 26) hx hb dX12_feed_19 (by decide) (fun h => absurd h (by decide)) (fun _ => ?_)
  refine lv_lload_n hx hb dX12_feed_22 rfl (lv_at hl 2 rfl) ?_
  refine lv_goto (tgt := 39) hx hb dX12_feed_23 (by decide) ?_
  refine lv_lstore (lv' := [(8, .long va), (7, .int 5), (0, .ref z), (1, .long va), (3, .long vb), (5, .long vc)]) hx hb dX12_feed_39 hl (by decide) rfl (fun ls hl => ?_)
  refine lv_lload hx hb dX12_feed_41 (lv_at hl 0 rfl) ?_
  refine lv_bipush (v := 56) hx hb dX12_feed_43 (by decide) ?_
  refine lv_bipush (v := 8) hx hb dX12_feed_45 (by decide) ?_
  refine lv_iload hx hb dX12_feed_47 (lv_at hl 1 rfl) ?_
  refine lv_bipush (v := 7) hx hb dX12_feed_49 (by decide) ?_
  refine lv_iand hx hb dX12_feed_51 ?_
  refine lv_topi (fun x_1645 ex_1645 => ?_)
  obtain rfl : x_1645 = 5 := ex_1645.trans (by decide)
  refine lv_imul hx hb dX12_feed_52 ?_
  refine lv_topi (fun x_1646 ex_1646 => ?_)
  obtain rfl : x_1646 = 40 := ex_1646.trans (by decide)
  refine lv_isub hx hb dX12_feed_53 ?_
  refine lv_topi (fun x_1647 ex_1647 => ?_)
  obtain rfl : x_1647 = 16 := ex_1647.trans (by decide)
  refine lv_lushr hx hb dX12_feed_54 rfl ?_
  refine lv_topl (fun x_1648 ex_1648 => ?_)
  refine k_ldc2 hC gw_1393 dX12_feed_55 ?_
  refine lv_land hx hb dX12_feed_58 ?_
  refine lv_topl (fun x_1649 ex_1649 => ?_)
  refine lv_l2i hx hb dX12_feed_59 rfl ?_
  refine lv_topi (fun x_1650 ex_1650 => ?_)
  refine lv_istore (lv' := [(10, .int x_1650), (8, .long va), (7, .int 5), (0, .ref z), (1, .long va), (3, .long vb), (5, .long vc)]) hx hb dX12_feed_60 hl (by decide) rfl (fun ls hl => ?_)
  have hk : x_1650 = kby va 16 := by rw [ex_1650, ex_1649, k_land, ex_1648]; rfl
  refine lv_aload_n hx hb dX12_feed_62 rfl (lv_at hl 3 rfl) ?_
  refine fg_RX12_148 hC hw 0 rfl rfl dX12_feed_63 ?_
  refine lv_sipush (v := 1000) hx hb dX12_feed_66 (by decide) ?_
  refine lv_icmp_ge (tgt := 114) hx hb dX12_feed_69 (by decide) (fun c69 => ?_) (fun c69 => ?_)
  · have hfull : ¬ n < 1000 := fun h9 => absurd c69 (nI_ge h9 (by decide))
    refine lv_iinc (v := 6) (lv' := [(7, .int 6), (10, .int x_1650), (8, .long va), (0, .ref z), (1, .long va), (3, .long vb), (5, .long vc)]) hx hb dX12_feed_114 hl (k := 2) rfl (by decide) (by decide) rfl (fun ls hl => ?_)
    refine lv_goto (tgt := 8) hx hb dX12_feed_117 (by decide) ?_
    have hst : kst n (kby va 16) = n := by rw [← hk]; exact (by first | exact kst_full hfull | exact kst_a c76 hlt | exact kst_b c83 c90 hlt | exact kst_lo c76 c83 | exact kst_hi c76 c90)
    exact mf_6 z z2 z10 z11 z12 z13 z14 z15 z16 z17 z18 z19 z22 z23 z24 z25 z26 z27 z28 z29 z30 z31 z32 z33 z36 z37 z38 z39 z40 z41 z42 z43 z44 z45 z46 z47 z48 z55 z56 z59 z60 z61 va vb vc n f (by omega) F (by have h9 : kad vc 8 (kad vb 8 (kad va 2 (kst n (kby va 16)))) = F := hF; rw [hst] at h9; exact h9) hC hr hlocks _ _ (kW.sub hw [0, 1] rfl rfl) _ (lv_sub hl [0, 3, 4, 5, 6] rfl)
  · have hlt : n < 1000 := by rcases Nat.lt_or_ge n 1000 with h9 | h9; exact h9; exact absurd (nI_le h9 (by omega)) c69
    refine lv_iload hx hb dX12_feed_72 (lv_at hl 0 rfl) ?_
    refine lv_bipush (v := 10) hx hb dX12_feed_74 (by decide) ?_
    refine lv_icmp_eq (tgt := 93) hx hb dX12_feed_76 (by decide) (fun c76 => ?_) (fun c76 => ?_)
    · refine lv_aload_n hx hb dX12_feed_93 rfl (lv_at hl 3 rfl) ?_
      refine fg_RX12_7 hC hw 0 rfl rfl dX12_feed_94 ?_
      refine lv_aload_n hx hb dX12_feed_97 rfl (lv_at hl 3 rfl) ?_
      refine fg_RX12_148 hC hw 0 rfl rfl dX12_feed_98 ?_
      refine lv_iload hx hb dX12_feed_101 (lv_at hl 0 rfl) ?_
      refine k_iast hC hw 1 rfl (vp_in_nI hlt (by decide)) dX12_feed_103 (fun H locs hw => ?_)
      obtain ⟨f_1651, ef_1651⟩ : ∃ g, g = upd f ((nI n) : Int32).toNatClampNeg x_1650 := ⟨_, rfl⟩
      have hw : kW γ A [(z, .inr (11, [.int 0, .int (nI n), .ref z2, .int 0, .int 0, .int 0, .int 0, .long 0, .int 0, .int 0, .ref z10, .ref z11, .ref z12, .ref z13, .ref z14, .ref z15, .ref z16, .ref z17, .ref z18, .ref z19, .int 0, .int 0, .ref z22, .ref z23, .ref z24, .ref z25, .ref z26, .ref z27, .ref z28, .ref z29, .ref z30, .ref z31, .ref z32, .ref z33, .int 0, .long 0, .ref z36, .ref z37, .ref z38, .ref z39, .ref z40, .ref z41, .ref z42, .ref z43, .ref z44, .ref z45, .ref z46, .ref z47, .ref z48, .int 0, .int 10, .int 0, .int 0, .int 0, .int 0, .ref z55, .ref z56, .int 0, .int 0, .ref z59, .ref z60, .ref z61, .int 0, .long 0])), (z2, .inl (γ.2.1 0, 1000, .inl f_1651))] s H locs := by rw [ef_1651]; exact hw
      refine lv_aload_n hx hb dX12_feed_104 rfl (lv_at hl 3 rfl) ?_
      refine lv_dup hx hb dX12_feed_105 rfl ?_
      refine fg_RX12_148 hC hw 0 rfl rfl dX12_feed_106 ?_
      refine lv_iconst (v := 1) hx hb dX12_feed_109 (by decide) ?_
      refine lv_iadd hx hb dX12_feed_110 ?_
      refine lv_topi (fun x_1652 ex_1652 => ?_)
      obtain rfl : x_1652 = (nI (n + 1)) := ex_1652.trans (nI_1 n)
      refine fs_RX12_148 hC hw 0 rfl rfl rfl (Nat.le_of_ble_eq_true rfl) dX12_feed_111 (fun H locs hw => ?_)
      have hw : kW γ A [(z, .inr (11, [.int 0, .int (nI (n + 1)), .ref z2, .int 0, .int 0, .int 0, .int 0, .long 0, .int 0, .int 0, .ref z10, .ref z11, .ref z12, .ref z13, .ref z14, .ref z15, .ref z16, .ref z17, .ref z18, .ref z19, .int 0, .int 0, .ref z22, .ref z23, .ref z24, .ref z25, .ref z26, .ref z27, .ref z28, .ref z29, .ref z30, .ref z31, .ref z32, .ref z33, .int 0, .long 0, .ref z36, .ref z37, .ref z38, .ref z39, .ref z40, .ref z41, .ref z42, .ref z43, .ref z44, .ref z45, .ref z46, .ref z47, .ref z48, .int 0, .int 10, .int 0, .int 0, .int 0, .int 0, .ref z55, .ref z56, .int 0, .int 0, .ref z59, .ref z60, .ref z61, .int 0, .long 0])), (z2, .inl (γ.2.1 0, 1000, .inl f_1651))] s H locs := hw
      refine lv_iinc (v := 6) (lv' := [(7, .int 6), (10, .int x_1650), (8, .long va), (0, .ref z), (1, .long va), (3, .long vb), (5, .long vc)]) hx hb dX12_feed_114 hl (k := 2) rfl (by decide) (by decide) rfl (fun ls hl => ?_)
      refine lv_goto (tgt := 8) hx hb dX12_feed_117 (by decide) ?_
      have hst : kst n (kby va 16) = (n + 1) := by rw [← hk]; exact (by first | exact kst_full hfull | exact kst_a c76 hlt | exact kst_b c83 c90 hlt | exact kst_lo c76 c83 | exact kst_hi c76 c90)
      exact mf_6 z z2 z10 z11 z12 z13 z14 z15 z16 z17 z18 z19 z22 z23 z24 z25 z26 z27 z28 z29 z30 z31 z32 z33 z36 z37 z38 z39 z40 z41 z42 z43 z44 z45 z46 z47 z48 z55 z56 z59 z60 z61 va vb vc (n + 1) f_1651 (by omega) F (by have h9 : kad vc 8 (kad vb 8 (kad va 2 (kst n (kby va 16)))) = F := hF; rw [hst] at h9; exact h9) hC hr hlocks _ _ (kW.sub hw [0, 1] rfl rfl) _ (lv_sub hl [0, 3, 4, 5, 6] rfl)
    · refine lv_iload hx hb dX12_feed_79 (lv_at hl 0 rfl) ?_
      refine lv_bipush (v := 32) hx hb dX12_feed_81 (by decide) ?_
      refine lv_icmp_lt (tgt := 114) hx hb dX12_feed_83 (by decide) (fun c83 => ?_) (fun c83 => ?_)
      · refine lv_iinc (v := 6) (lv' := [(7, .int 6), (10, .int x_1650), (8, .long va), (0, .ref z), (1, .long va), (3, .long vb), (5, .long vc)]) hx hb dX12_feed_114 hl (k := 2) rfl (by decide) (by decide) rfl (fun ls hl => ?_)
        refine lv_goto (tgt := 8) hx hb dX12_feed_117 (by decide) ?_
        have hst : kst n (kby va 16) = n := by rw [← hk]; exact (by first | exact kst_full hfull | exact kst_a c76 hlt | exact kst_b c83 c90 hlt | exact kst_lo c76 c83 | exact kst_hi c76 c90)
        exact mf_6 z z2 z10 z11 z12 z13 z14 z15 z16 z17 z18 z19 z22 z23 z24 z25 z26 z27 z28 z29 z30 z31 z32 z33 z36 z37 z38 z39 z40 z41 z42 z43 z44 z45 z46 z47 z48 z55 z56 z59 z60 z61 va vb vc n f (by omega) F (by have h9 : kad vc 8 (kad vb 8 (kad va 2 (kst n (kby va 16)))) = F := hF; rw [hst] at h9; exact h9) hC hr hlocks _ _ (kW.sub hw [0, 1] rfl rfl) _ (lv_sub hl [0, 3, 4, 5, 6] rfl)
      · refine lv_iload hx hb dX12_feed_86 (lv_at hl 0 rfl) ?_
        refine lv_bipush (v := 126) hx hb dX12_feed_88 (by decide) ?_
        refine lv_icmp_gt (tgt := 114) hx hb dX12_feed_90 (by decide) (fun c90 => ?_) (fun c90 => ?_)
        · refine lv_iinc (v := 6) (lv' := [(7, .int 6), (10, .int x_1650), (8, .long va), (0, .ref z), (1, .long va), (3, .long vb), (5, .long vc)]) hx hb dX12_feed_114 hl (k := 2) rfl (by decide) (by decide) rfl (fun ls hl => ?_)
          refine lv_goto (tgt := 8) hx hb dX12_feed_117 (by decide) ?_
          have hst : kst n (kby va 16) = n := by rw [← hk]; exact (by first | exact kst_full hfull | exact kst_a c76 hlt | exact kst_b c83 c90 hlt | exact kst_lo c76 c83 | exact kst_hi c76 c90)
          exact mf_6 z z2 z10 z11 z12 z13 z14 z15 z16 z17 z18 z19 z22 z23 z24 z25 z26 z27 z28 z29 z30 z31 z32 z33 z36 z37 z38 z39 z40 z41 z42 z43 z44 z45 z46 z47 z48 z55 z56 z59 z60 z61 va vb vc n f (by omega) F (by have h9 : kad vc 8 (kad vb 8 (kad va 2 (kst n (kby va 16)))) = F := hF; rw [hst] at h9; exact h9) hC hr hlocks _ _ (kW.sub hw [0, 1] rfl rfl) _ (lv_sub hl [0, 3, 4, 5, 6] rfl)
        · refine lv_aload_n hx hb dX12_feed_93 rfl (lv_at hl 3 rfl) ?_
          refine fg_RX12_7 hC hw 0 rfl rfl dX12_feed_94 ?_
          refine lv_aload_n hx hb dX12_feed_97 rfl (lv_at hl 3 rfl) ?_
          refine fg_RX12_148 hC hw 0 rfl rfl dX12_feed_98 ?_
          refine lv_iload hx hb dX12_feed_101 (lv_at hl 0 rfl) ?_
          refine k_iast hC hw 1 rfl (vp_in_nI hlt (by decide)) dX12_feed_103 (fun H locs hw => ?_)
          obtain ⟨f_1653, ef_1653⟩ : ∃ g, g = upd f ((nI n) : Int32).toNatClampNeg x_1650 := ⟨_, rfl⟩
          have hw : kW γ A [(z, .inr (11, [.int 0, .int (nI n), .ref z2, .int 0, .int 0, .int 0, .int 0, .long 0, .int 0, .int 0, .ref z10, .ref z11, .ref z12, .ref z13, .ref z14, .ref z15, .ref z16, .ref z17, .ref z18, .ref z19, .int 0, .int 0, .ref z22, .ref z23, .ref z24, .ref z25, .ref z26, .ref z27, .ref z28, .ref z29, .ref z30, .ref z31, .ref z32, .ref z33, .int 0, .long 0, .ref z36, .ref z37, .ref z38, .ref z39, .ref z40, .ref z41, .ref z42, .ref z43, .ref z44, .ref z45, .ref z46, .ref z47, .ref z48, .int 0, .int 10, .int 0, .int 0, .int 0, .int 0, .ref z55, .ref z56, .int 0, .int 0, .ref z59, .ref z60, .ref z61, .int 0, .long 0])), (z2, .inl (γ.2.1 0, 1000, .inl f_1653))] s H locs := by rw [ef_1653]; exact hw
          refine lv_aload_n hx hb dX12_feed_104 rfl (lv_at hl 3 rfl) ?_
          refine lv_dup hx hb dX12_feed_105 rfl ?_
          refine fg_RX12_148 hC hw 0 rfl rfl dX12_feed_106 ?_
          refine lv_iconst (v := 1) hx hb dX12_feed_109 (by decide) ?_
          refine lv_iadd hx hb dX12_feed_110 ?_
          refine lv_topi (fun x_1654 ex_1654 => ?_)
          obtain rfl : x_1654 = (nI (n + 1)) := ex_1654.trans (nI_1 n)
          refine fs_RX12_148 hC hw 0 rfl rfl rfl (Nat.le_of_ble_eq_true rfl) dX12_feed_111 (fun H locs hw => ?_)
          have hw : kW γ A [(z, .inr (11, [.int 0, .int (nI (n + 1)), .ref z2, .int 0, .int 0, .int 0, .int 0, .long 0, .int 0, .int 0, .ref z10, .ref z11, .ref z12, .ref z13, .ref z14, .ref z15, .ref z16, .ref z17, .ref z18, .ref z19, .int 0, .int 0, .ref z22, .ref z23, .ref z24, .ref z25, .ref z26, .ref z27, .ref z28, .ref z29, .ref z30, .ref z31, .ref z32, .ref z33, .int 0, .long 0, .ref z36, .ref z37, .ref z38, .ref z39, .ref z40, .ref z41, .ref z42, .ref z43, .ref z44, .ref z45, .ref z46, .ref z47, .ref z48, .int 0, .int 10, .int 0, .int 0, .int 0, .int 0, .ref z55, .ref z56, .int 0, .int 0, .ref z59, .ref z60, .ref z61, .int 0, .long 0])), (z2, .inl (γ.2.1 0, 1000, .inl f_1653))] s H locs := hw
          refine lv_iinc (v := 6) (lv' := [(7, .int 6), (10, .int x_1650), (8, .long va), (0, .ref z), (1, .long va), (3, .long vb), (5, .long vc)]) hx hb dX12_feed_114 hl (k := 2) rfl (by decide) (by decide) rfl (fun ls hl => ?_)
          refine lv_goto (tgt := 8) hx hb dX12_feed_117 (by decide) ?_
          have hst : kst n (kby va 16) = (n + 1) := by rw [← hk]; exact (by first | exact kst_full hfull | exact kst_a c76 hlt | exact kst_b c83 c90 hlt | exact kst_lo c76 c83 | exact kst_hi c76 c90)
          exact mf_6 z z2 z10 z11 z12 z13 z14 z15 z16 z17 z18 z19 z22 z23 z24 z25 z26 z27 z28 z29 z30 z31 z32 z33 z36 z37 z38 z39 z40 z41 z42 z43 z44 z45 z46 z47 z48 z55 z56 z59 z60 z61 va vb vc (n + 1) f_1653 (by omega) F (by have h9 : kad vc 8 (kad vb 8 (kad va 2 (kst n (kby va 16)))) = F := hF; rw [hst] at h9; exact h9) hC hr hlocks _ _ (kW.sub hw [0, 1] rfl rfl) _ (lv_sub hl [0, 3, 4, 5, 6] rfl)

set_option maxHeartbeats 4000000 in
set_option maxRecDepth 100000 in
theorem mf_4 {γ : kΓ} {l : Launch} {p : Program} {e : Env} {s : State} {m : MethodId} {below : List Frame} {meth : Method} {c : Code} {A : Nat → Prop} (z : Nat) (z2 : Nat) (z10 : Nat) (z11 : Nat) (z12 : Nat) (z13 : Nat) (z14 : Nat) (z15 : Nat) (z16 : Nat) (z17 : Nat) (z18 : Nat) (z19 : Nat) (z22 : Nat) (z23 : Nat) (z24 : Nat) (z25 : Nat) (z26 : Nat) (z27 : Nat) (z28 : Nat) (z29 : Nat) (z30 : Nat) (z31 : Nat) (z32 : Nat) (z33 : Nat) (z36 : Nat) (z37 : Nat) (z38 : Nat) (z39 : Nat) (z40 : Nat) (z41 : Nat) (z42 : Nat) (z43 : Nat) (z44 : Nat) (z45 : Nat) (z46 : Nat) (z47 : Nat) (z48 : Nat) (z55 : Nat) (z56 : Nat) (z59 : Nat) (z60 : Nat) (z61 : Nat) (va : Int64) (vb : Int64) (vc : Int64) (n : Nat) (f : Nat → Int32) (hn : n ≤ 1000) (F : Nat) (hF : kad vc 8 (kad vb 8 (kad va 4 n)) = F) (hC : kC γ p s m [.ref z, .long va, .long vb, .long vc].toArray c cX12_feed 11 RX12 A) (hr : meth.sig.returnType = (some .int)) (hlocks : meth.locks = false) (H : Heap) (locs : List Loc) (hw : kW γ A [(z, .inr (11, [.int 0, .int (nI n), .ref z2, .int 0, .int 0, .int 0, .int 0, .long 0, .int 0, .int 0, .ref z10, .ref z11, .ref z12, .ref z13, .ref z14, .ref z15, .ref z16, .ref z17, .ref z18, .ref z19, .int 0, .int 0, .ref z22, .ref z23, .ref z24, .ref z25, .ref z26, .ref z27, .ref z28, .ref z29, .ref z30, .ref z31, .ref z32, .ref z33, .int 0, .long 0, .ref z36, .ref z37, .ref z38, .ref z39, .ref z40, .ref z41, .ref z42, .ref z43, .ref z44, .ref z45, .ref z46, .ref z47, .ref z48, .int 0, .int 10, .int 0, .int 0, .int 0, .int 0, .ref z55, .ref z56, .int 0, .int 0, .ref z59, .ref z60, .ref z61, .int 0, .long 0])), (z2, .inl (γ.2.1 0, 1000, .inl f))] s H locs) (ls : Array Slot) (hl : lv_has ls 11 [(7, .int 4), (0, .ref z), (1, .long va), (3, .long vb), (5, .long vc)]) : W p l e ({ frames := 0, cells := 0, slots := 0, locals := 0 } : Room) s m [.ref z, .long va, .long vb, .long vc].toArray below meth c H locs 0 0 (MQ below (kQ γ A (fun r w1 => r = some (.int (nI F)) ∧ w1 = [])) [.ref z, .long va, .long vb, .long vc].toArray s 0 0 A) (F0 m 8 ls []) := by
  have hx := hC.1
  have hb := hC.2.1
  refine lv_iload hx hb dX12_feed_8 (lv_at hl 0 rfl) ?_
  refine lv_bipush (v := 24) hx hb dX12_feed_10 (by decide) ?_
  refine lv_icmp_ge (tgt := 120) hx hb dX12_feed_12 (by decide) (fun h => absurd h (by decide)) (fun _ => ?_)
  refine lv_iload hx hb dX12_feed_15 (lv_at hl 0 rfl) ?_
  refine lv_bipush (v := 8) hx hb dX12_feed_17 (by decide) ?_
  refine lv_icmp_ge (tgt := 26) hx hb dX12_feed_19 (by decide) (fun h => absurd h (by decide)) (fun _ => ?_)
  refine lv_lload_n hx hb dX12_feed_22 rfl (lv_at hl 2 rfl) ?_
  refine lv_goto (tgt := 39) hx hb dX12_feed_23 (by decide) ?_
  refine lv_lstore (lv' := [(8, .long va), (7, .int 4), (0, .ref z), (1, .long va), (3, .long vb), (5, .long vc)]) hx hb dX12_feed_39 hl (by decide) rfl (fun ls hl => ?_)
  refine lv_lload hx hb dX12_feed_41 (lv_at hl 0 rfl) ?_
  refine lv_bipush (v := 56) hx hb dX12_feed_43 (by decide) ?_
  refine lv_bipush (v := 8) hx hb dX12_feed_45 (by decide) ?_
  refine lv_iload hx hb dX12_feed_47 (lv_at hl 1 rfl) ?_
  refine lv_bipush (v := 7) hx hb dX12_feed_49 (by decide) ?_
  refine lv_iand hx hb dX12_feed_51 ?_
  refine lv_topi (fun x_1655 ex_1655 => ?_)
  obtain rfl : x_1655 = 4 := ex_1655.trans (by decide)
  refine lv_imul hx hb dX12_feed_52 ?_
  refine lv_topi (fun x_1656 ex_1656 => ?_)
  obtain rfl : x_1656 = 32 := ex_1656.trans (by decide)
  refine lv_isub hx hb dX12_feed_53 ?_
  refine lv_topi (fun x_1657 ex_1657 => ?_)
  obtain rfl : x_1657 = 24 := ex_1657.trans (by decide)
  refine lv_lushr hx hb dX12_feed_54 rfl ?_
  refine lv_topl (fun x_1658 ex_1658 => ?_)
  refine k_ldc2 hC gw_1393 dX12_feed_55 ?_
  refine lv_land hx hb dX12_feed_58 ?_
  refine lv_topl (fun x_1659 ex_1659 => ?_)
  refine lv_l2i hx hb dX12_feed_59 rfl ?_
  refine lv_topi (fun x_1660 ex_1660 => ?_)
  refine lv_istore (lv' := [(10, .int x_1660), (8, .long va), (7, .int 4), (0, .ref z), (1, .long va), (3, .long vb), (5, .long vc)]) hx hb dX12_feed_60 hl (by decide) rfl (fun ls hl => ?_)
  have hk : x_1660 = kby va 24 := by rw [ex_1660, ex_1659, k_land, ex_1658]; rfl
  refine lv_aload_n hx hb dX12_feed_62 rfl (lv_at hl 3 rfl) ?_
  refine fg_RX12_148 hC hw 0 rfl rfl dX12_feed_63 ?_
  refine lv_sipush (v := 1000) hx hb dX12_feed_66 (by decide) ?_
  refine lv_icmp_ge (tgt := 114) hx hb dX12_feed_69 (by decide) (fun c69 => ?_) (fun c69 => ?_)
  · have hfull : ¬ n < 1000 := fun h9 => absurd c69 (nI_ge h9 (by decide))
    refine lv_iinc (v := 5) (lv' := [(7, .int 5), (10, .int x_1660), (8, .long va), (0, .ref z), (1, .long va), (3, .long vb), (5, .long vc)]) hx hb dX12_feed_114 hl (k := 2) rfl (by decide) (by decide) rfl (fun ls hl => ?_)
    refine lv_goto (tgt := 8) hx hb dX12_feed_117 (by decide) ?_
    have hst : kst n (kby va 24) = n := by rw [← hk]; exact (by first | exact kst_full hfull | exact kst_a c76 hlt | exact kst_b c83 c90 hlt | exact kst_lo c76 c83 | exact kst_hi c76 c90)
    exact mf_5 z z2 z10 z11 z12 z13 z14 z15 z16 z17 z18 z19 z22 z23 z24 z25 z26 z27 z28 z29 z30 z31 z32 z33 z36 z37 z38 z39 z40 z41 z42 z43 z44 z45 z46 z47 z48 z55 z56 z59 z60 z61 va vb vc n f (by omega) F (by have h9 : kad vc 8 (kad vb 8 (kad va 3 (kst n (kby va 24)))) = F := hF; rw [hst] at h9; exact h9) hC hr hlocks _ _ (kW.sub hw [0, 1] rfl rfl) _ (lv_sub hl [0, 3, 4, 5, 6] rfl)
  · have hlt : n < 1000 := by rcases Nat.lt_or_ge n 1000 with h9 | h9; exact h9; exact absurd (nI_le h9 (by omega)) c69
    refine lv_iload hx hb dX12_feed_72 (lv_at hl 0 rfl) ?_
    refine lv_bipush (v := 10) hx hb dX12_feed_74 (by decide) ?_
    refine lv_icmp_eq (tgt := 93) hx hb dX12_feed_76 (by decide) (fun c76 => ?_) (fun c76 => ?_)
    · refine lv_aload_n hx hb dX12_feed_93 rfl (lv_at hl 3 rfl) ?_
      refine fg_RX12_7 hC hw 0 rfl rfl dX12_feed_94 ?_
      refine lv_aload_n hx hb dX12_feed_97 rfl (lv_at hl 3 rfl) ?_
      refine fg_RX12_148 hC hw 0 rfl rfl dX12_feed_98 ?_
      refine lv_iload hx hb dX12_feed_101 (lv_at hl 0 rfl) ?_
      refine k_iast hC hw 1 rfl (vp_in_nI hlt (by decide)) dX12_feed_103 (fun H locs hw => ?_)
      obtain ⟨f_1661, ef_1661⟩ : ∃ g, g = upd f ((nI n) : Int32).toNatClampNeg x_1660 := ⟨_, rfl⟩
      have hw : kW γ A [(z, .inr (11, [.int 0, .int (nI n), .ref z2, .int 0, .int 0, .int 0, .int 0, .long 0, .int 0, .int 0, .ref z10, .ref z11, .ref z12, .ref z13, .ref z14, .ref z15, .ref z16, .ref z17, .ref z18, .ref z19, .int 0, .int 0, .ref z22, .ref z23, .ref z24, .ref z25, .ref z26, .ref z27, .ref z28, .ref z29, .ref z30, .ref z31, .ref z32, .ref z33, .int 0, .long 0, .ref z36, .ref z37, .ref z38, .ref z39, .ref z40, .ref z41, .ref z42, .ref z43, .ref z44, .ref z45, .ref z46, .ref z47, .ref z48, .int 0, .int 10, .int 0, .int 0, .int 0, .int 0, .ref z55, .ref z56, .int 0, .int 0, .ref z59, .ref z60, .ref z61, .int 0, .long 0])), (z2, .inl (γ.2.1 0, 1000, .inl f_1661))] s H locs := by rw [ef_1661]; exact hw
      refine lv_aload_n hx hb dX12_feed_104 rfl (lv_at hl 3 rfl) ?_
      refine lv_dup hx hb dX12_feed_105 rfl ?_
      refine fg_RX12_148 hC hw 0 rfl rfl dX12_feed_106 ?_
      refine lv_iconst (v := 1) hx hb dX12_feed_109 (by decide) ?_
      refine lv_iadd hx hb dX12_feed_110 ?_
      refine lv_topi (fun x_1662 ex_1662 => ?_)
      obtain rfl : x_1662 = (nI (n + 1)) := ex_1662.trans (nI_1 n)
      refine fs_RX12_148 hC hw 0 rfl rfl rfl (Nat.le_of_ble_eq_true rfl) dX12_feed_111 (fun H locs hw => ?_)
      have hw : kW γ A [(z, .inr (11, [.int 0, .int (nI (n + 1)), .ref z2, .int 0, .int 0, .int 0, .int 0, .long 0, .int 0, .int 0, .ref z10, .ref z11, .ref z12, .ref z13, .ref z14, .ref z15, .ref z16, .ref z17, .ref z18, .ref z19, .int 0, .int 0, .ref z22, .ref z23, .ref z24, .ref z25, .ref z26, .ref z27, .ref z28, .ref z29, .ref z30, .ref z31, .ref z32, .ref z33, .int 0, .long 0, .ref z36, .ref z37, .ref z38, .ref z39, .ref z40, .ref z41, .ref z42, .ref z43, .ref z44, .ref z45, .ref z46, .ref z47, .ref z48, .int 0, .int 10, .int 0, .int 0, .int 0, .int 0, .ref z55, .ref z56, .int 0, .int 0, .ref z59, .ref z60, .ref z61, .int 0, .long 0])), (z2, .inl (γ.2.1 0, 1000, .inl f_1661))] s H locs := hw
      refine lv_iinc (v := 5) (lv' := [(7, .int 5), (10, .int x_1660), (8, .long va), (0, .ref z), (1, .long va), (3, .long vb), (5, .long vc)]) hx hb dX12_feed_114 hl (k := 2) rfl (by decide) (by decide) rfl (fun ls hl => ?_)
      refine lv_goto (tgt := 8) hx hb dX12_feed_117 (by decide) ?_
      have hst : kst n (kby va 24) = (n + 1) := by rw [← hk]; exact (by first | exact kst_full hfull | exact kst_a c76 hlt | exact kst_b c83 c90 hlt | exact kst_lo c76 c83 | exact kst_hi c76 c90)
      exact mf_5 z z2 z10 z11 z12 z13 z14 z15 z16 z17 z18 z19 z22 z23 z24 z25 z26 z27 z28 z29 z30 z31 z32 z33 z36 z37 z38 z39 z40 z41 z42 z43 z44 z45 z46 z47 z48 z55 z56 z59 z60 z61 va vb vc (n + 1) f_1661 (by omega) F (by have h9 : kad vc 8 (kad vb 8 (kad va 3 (kst n (kby va 24)))) = F := hF; rw [hst] at h9; exact h9) hC hr hlocks _ _ (kW.sub hw [0, 1] rfl rfl) _ (lv_sub hl [0, 3, 4, 5, 6] rfl)
    · refine lv_iload hx hb dX12_feed_79 (lv_at hl 0 rfl) ?_
      refine lv_bipush (v := 32) hx hb dX12_feed_81 (by decide) ?_
      refine lv_icmp_lt (tgt := 114) hx hb dX12_feed_83 (by decide) (fun c83 => ?_) (fun c83 => ?_)
      · refine lv_iinc (v := 5) (lv' := [(7, .int 5), (10, .int x_1660), (8, .long va), (0, .ref z), (1, .long va), (3, .long vb), (5, .long vc)]) hx hb dX12_feed_114 hl (k := 2) rfl (by decide) (by decide) rfl (fun ls hl => ?_)
        refine lv_goto (tgt := 8) hx hb dX12_feed_117 (by decide) ?_
        have hst : kst n (kby va 24) = n := by rw [← hk]; exact (by first | exact kst_full hfull | exact kst_a c76 hlt | exact kst_b c83 c90 hlt | exact kst_lo c76 c83 | exact kst_hi c76 c90)
        exact mf_5 z z2 z10 z11 z12 z13 z14 z15 z16 z17 z18 z19 z22 z23 z24 z25 z26 z27 z28 z29 z30 z31 z32 z33 z36 z37 z38 z39 z40 z41 z42 z43 z44 z45 z46 z47 z48 z55 z56 z59 z60 z61 va vb vc n f (by omega) F (by have h9 : kad vc 8 (kad vb 8 (kad va 3 (kst n (kby va 24)))) = F := hF; rw [hst] at h9; exact h9) hC hr hlocks _ _ (kW.sub hw [0, 1] rfl rfl) _ (lv_sub hl [0, 3, 4, 5, 6] rfl)
      · refine lv_iload hx hb dX12_feed_86 (lv_at hl 0 rfl) ?_
        refine lv_bipush (v := 126) hx hb dX12_feed_88 (by decide) ?_
        refine lv_icmp_gt (tgt := 114) hx hb dX12_feed_90 (by decide) (fun c90 => ?_) (fun c90 => ?_)
        · refine lv_iinc (v := 5) (lv' := [(7, .int 5), (10, .int x_1660), (8, .long va), (0, .ref z), (1, .long va), (3, .long vb), (5, .long vc)]) hx hb dX12_feed_114 hl (k := 2) rfl (by decide) (by decide) rfl (fun ls hl => ?_)
          refine lv_goto (tgt := 8) hx hb dX12_feed_117 (by decide) ?_
          have hst : kst n (kby va 24) = n := by rw [← hk]; exact (by first | exact kst_full hfull | exact kst_a c76 hlt | exact kst_b c83 c90 hlt | exact kst_lo c76 c83 | exact kst_hi c76 c90)
          exact mf_5 z z2 z10 z11 z12 z13 z14 z15 z16 z17 z18 z19 z22 z23 z24 z25 z26 z27 z28 z29 z30 z31 z32 z33 z36 z37 z38 z39 z40 z41 z42 z43 z44 z45 z46 z47 z48 z55 z56 z59 z60 z61 va vb vc n f (by omega) F (by have h9 : kad vc 8 (kad vb 8 (kad va 3 (kst n (kby va 24)))) = F := hF; rw [hst] at h9; exact h9) hC hr hlocks _ _ (kW.sub hw [0, 1] rfl rfl) _ (lv_sub hl [0, 3, 4, 5, 6] rfl)
        · refine lv_aload_n hx hb dX12_feed_93 rfl (lv_at hl 3 rfl) ?_
          refine fg_RX12_7 hC hw 0 rfl rfl dX12_feed_94 ?_
          refine lv_aload_n hx hb dX12_feed_97 rfl (lv_at hl 3 rfl) ?_
          refine fg_RX12_148 hC hw 0 rfl rfl dX12_feed_98 ?_
          refine lv_iload hx hb dX12_feed_101 (lv_at hl 0 rfl) ?_
          refine k_iast hC hw 1 rfl (vp_in_nI hlt (by decide)) dX12_feed_103 (fun H locs hw => ?_)
          obtain ⟨f_1663, ef_1663⟩ : ∃ g, g = upd f ((nI n) : Int32).toNatClampNeg x_1660 := ⟨_, rfl⟩
          have hw : kW γ A [(z, .inr (11, [.int 0, .int (nI n), .ref z2, .int 0, .int 0, .int 0, .int 0, .long 0, .int 0, .int 0, .ref z10, .ref z11, .ref z12, .ref z13, .ref z14, .ref z15, .ref z16, .ref z17, .ref z18, .ref z19, .int 0, .int 0, .ref z22, .ref z23, .ref z24, .ref z25, .ref z26, .ref z27, .ref z28, .ref z29, .ref z30, .ref z31, .ref z32, .ref z33, .int 0, .long 0, .ref z36, .ref z37, .ref z38, .ref z39, .ref z40, .ref z41, .ref z42, .ref z43, .ref z44, .ref z45, .ref z46, .ref z47, .ref z48, .int 0, .int 10, .int 0, .int 0, .int 0, .int 0, .ref z55, .ref z56, .int 0, .int 0, .ref z59, .ref z60, .ref z61, .int 0, .long 0])), (z2, .inl (γ.2.1 0, 1000, .inl f_1663))] s H locs := by rw [ef_1663]; exact hw
          refine lv_aload_n hx hb dX12_feed_104 rfl (lv_at hl 3 rfl) ?_
          refine lv_dup hx hb dX12_feed_105 rfl ?_
          refine fg_RX12_148 hC hw 0 rfl rfl dX12_feed_106 ?_
          refine lv_iconst (v := 1) hx hb dX12_feed_109 (by decide) ?_
          refine lv_iadd hx hb dX12_feed_110 ?_
          refine lv_topi (fun x_1664 ex_1664 => ?_)
          obtain rfl : x_1664 = (nI (n + 1)) := ex_1664.trans (nI_1 n)
          refine fs_RX12_148 hC hw 0 rfl rfl rfl (Nat.le_of_ble_eq_true rfl) dX12_feed_111 (fun H locs hw => ?_)
          have hw : kW γ A [(z, .inr (11, [.int 0, .int (nI (n + 1)), .ref z2, .int 0, .int 0, .int 0, .int 0, .long 0, .int 0, .int 0, .ref z10, .ref z11, .ref z12, .ref z13, .ref z14, .ref z15, .ref z16, .ref z17, .ref z18, .ref z19, .int 0, .int 0, .ref z22, .ref z23, .ref z24, .ref z25, .ref z26, .ref z27, .ref z28, .ref z29, .ref z30, .ref z31, .ref z32, .ref z33, .int 0, .long 0, .ref z36, .ref z37, .ref z38, .ref z39, .ref z40, .ref z41, .ref z42, .ref z43, .ref z44, .ref z45, .ref z46, .ref z47, .ref z48, .int 0, .int 10, .int 0, .int 0, .int 0, .int 0, .ref z55, .ref z56, .int 0, .int 0, .ref z59, .ref z60, .ref z61, .int 0, .long 0])), (z2, .inl (γ.2.1 0, 1000, .inl f_1663))] s H locs := hw
          refine lv_iinc (v := 5) (lv' := [(7, .int 5), (10, .int x_1660), (8, .long va), (0, .ref z), (1, .long va), (3, .long vb), (5, .long vc)]) hx hb dX12_feed_114 hl (k := 2) rfl (by decide) (by decide) rfl (fun ls hl => ?_)
          refine lv_goto (tgt := 8) hx hb dX12_feed_117 (by decide) ?_
          have hst : kst n (kby va 24) = (n + 1) := by rw [← hk]; exact (by first | exact kst_full hfull | exact kst_a c76 hlt | exact kst_b c83 c90 hlt | exact kst_lo c76 c83 | exact kst_hi c76 c90)
          exact mf_5 z z2 z10 z11 z12 z13 z14 z15 z16 z17 z18 z19 z22 z23 z24 z25 z26 z27 z28 z29 z30 z31 z32 z33 z36 z37 z38 z39 z40 z41 z42 z43 z44 z45 z46 z47 z48 z55 z56 z59 z60 z61 va vb vc (n + 1) f_1663 (by omega) F (by have h9 : kad vc 8 (kad vb 8 (kad va 3 (kst n (kby va 24)))) = F := hF; rw [hst] at h9; exact h9) hC hr hlocks _ _ (kW.sub hw [0, 1] rfl rfl) _ (lv_sub hl [0, 3, 4, 5, 6] rfl)

set_option maxHeartbeats 4000000 in
set_option maxRecDepth 100000 in
theorem mf_3 {γ : kΓ} {l : Launch} {p : Program} {e : Env} {s : State} {m : MethodId} {below : List Frame} {meth : Method} {c : Code} {A : Nat → Prop} (z : Nat) (z2 : Nat) (z10 : Nat) (z11 : Nat) (z12 : Nat) (z13 : Nat) (z14 : Nat) (z15 : Nat) (z16 : Nat) (z17 : Nat) (z18 : Nat) (z19 : Nat) (z22 : Nat) (z23 : Nat) (z24 : Nat) (z25 : Nat) (z26 : Nat) (z27 : Nat) (z28 : Nat) (z29 : Nat) (z30 : Nat) (z31 : Nat) (z32 : Nat) (z33 : Nat) (z36 : Nat) (z37 : Nat) (z38 : Nat) (z39 : Nat) (z40 : Nat) (z41 : Nat) (z42 : Nat) (z43 : Nat) (z44 : Nat) (z45 : Nat) (z46 : Nat) (z47 : Nat) (z48 : Nat) (z55 : Nat) (z56 : Nat) (z59 : Nat) (z60 : Nat) (z61 : Nat) (va : Int64) (vb : Int64) (vc : Int64) (n : Nat) (f : Nat → Int32) (hn : n ≤ 1000) (F : Nat) (hF : kad vc 8 (kad vb 8 (kad va 5 n)) = F) (hC : kC γ p s m [.ref z, .long va, .long vb, .long vc].toArray c cX12_feed 11 RX12 A) (hr : meth.sig.returnType = (some .int)) (hlocks : meth.locks = false) (H : Heap) (locs : List Loc) (hw : kW γ A [(z, .inr (11, [.int 0, .int (nI n), .ref z2, .int 0, .int 0, .int 0, .int 0, .long 0, .int 0, .int 0, .ref z10, .ref z11, .ref z12, .ref z13, .ref z14, .ref z15, .ref z16, .ref z17, .ref z18, .ref z19, .int 0, .int 0, .ref z22, .ref z23, .ref z24, .ref z25, .ref z26, .ref z27, .ref z28, .ref z29, .ref z30, .ref z31, .ref z32, .ref z33, .int 0, .long 0, .ref z36, .ref z37, .ref z38, .ref z39, .ref z40, .ref z41, .ref z42, .ref z43, .ref z44, .ref z45, .ref z46, .ref z47, .ref z48, .int 0, .int 10, .int 0, .int 0, .int 0, .int 0, .ref z55, .ref z56, .int 0, .int 0, .ref z59, .ref z60, .ref z61, .int 0, .long 0])), (z2, .inl (γ.2.1 0, 1000, .inl f))] s H locs) (ls : Array Slot) (hl : lv_has ls 11 [(7, .int 3), (0, .ref z), (1, .long va), (3, .long vb), (5, .long vc)]) : W p l e ({ frames := 0, cells := 0, slots := 0, locals := 0 } : Room) s m [.ref z, .long va, .long vb, .long vc].toArray below meth c H locs 0 0 (MQ below (kQ γ A (fun r w1 => r = some (.int (nI F)) ∧ w1 = [])) [.ref z, .long va, .long vb, .long vc].toArray s 0 0 A) (F0 m 8 ls []) := by
  have hx := hC.1
  have hb := hC.2.1
  refine lv_iload hx hb dX12_feed_8 (lv_at hl 0 rfl) ?_
  refine lv_bipush (v := 24) hx hb dX12_feed_10 (by decide) ?_
  refine lv_icmp_ge (tgt := 120) hx hb dX12_feed_12 (by decide) (fun h => absurd h (by decide)) (fun _ => ?_)
  refine lv_iload hx hb dX12_feed_15 (lv_at hl 0 rfl) ?_
  refine lv_bipush (v := 8) hx hb dX12_feed_17 (by decide) ?_
  refine lv_icmp_ge (tgt := 26) hx hb dX12_feed_19 (by decide) (fun h => absurd h (by decide)) (fun _ => ?_)
  refine lv_lload_n hx hb dX12_feed_22 rfl (lv_at hl 2 rfl) ?_
  refine lv_goto (tgt := 39) hx hb dX12_feed_23 (by decide) ?_
  refine lv_lstore (lv' := [(8, .long va), (7, .int 3), (0, .ref z), (1, .long va), (3, .long vb), (5, .long vc)]) hx hb dX12_feed_39 hl (by decide) rfl (fun ls hl => ?_)
  refine lv_lload hx hb dX12_feed_41 (lv_at hl 0 rfl) ?_
  refine lv_bipush (v := 56) hx hb dX12_feed_43 (by decide) ?_
  refine lv_bipush (v := 8) hx hb dX12_feed_45 (by decide) ?_
  refine lv_iload hx hb dX12_feed_47 (lv_at hl 1 rfl) ?_
  refine lv_bipush (v := 7) hx hb dX12_feed_49 (by decide) ?_
  refine lv_iand hx hb dX12_feed_51 ?_
  refine lv_topi (fun x_1665 ex_1665 => ?_)
  obtain rfl : x_1665 = 3 := ex_1665.trans (by decide)
  refine lv_imul hx hb dX12_feed_52 ?_
  refine lv_topi (fun x_1666 ex_1666 => ?_)
  obtain rfl : x_1666 = 24 := ex_1666.trans (by decide)
  refine lv_isub hx hb dX12_feed_53 ?_
  refine lv_topi (fun x_1667 ex_1667 => ?_)
  obtain rfl : x_1667 = 32 := ex_1667.trans (by decide)
  refine lv_lushr hx hb dX12_feed_54 rfl ?_
  refine lv_topl (fun x_1668 ex_1668 => ?_)
  refine k_ldc2 hC gw_1393 dX12_feed_55 ?_
  refine lv_land hx hb dX12_feed_58 ?_
  refine lv_topl (fun x_1669 ex_1669 => ?_)
  refine lv_l2i hx hb dX12_feed_59 rfl ?_
  refine lv_topi (fun x_1670 ex_1670 => ?_)
  refine lv_istore (lv' := [(10, .int x_1670), (8, .long va), (7, .int 3), (0, .ref z), (1, .long va), (3, .long vb), (5, .long vc)]) hx hb dX12_feed_60 hl (by decide) rfl (fun ls hl => ?_)
  have hk : x_1670 = kby va 32 := by rw [ex_1670, ex_1669, k_land, ex_1668]; rfl
  refine lv_aload_n hx hb dX12_feed_62 rfl (lv_at hl 3 rfl) ?_
  refine fg_RX12_148 hC hw 0 rfl rfl dX12_feed_63 ?_
  refine lv_sipush (v := 1000) hx hb dX12_feed_66 (by decide) ?_
  refine lv_icmp_ge (tgt := 114) hx hb dX12_feed_69 (by decide) (fun c69 => ?_) (fun c69 => ?_)
  · have hfull : ¬ n < 1000 := fun h9 => absurd c69 (nI_ge h9 (by decide))
    refine lv_iinc (v := 4) (lv' := [(7, .int 4), (10, .int x_1670), (8, .long va), (0, .ref z), (1, .long va), (3, .long vb), (5, .long vc)]) hx hb dX12_feed_114 hl (k := 2) rfl (by decide) (by decide) rfl (fun ls hl => ?_)
    refine lv_goto (tgt := 8) hx hb dX12_feed_117 (by decide) ?_
    have hst : kst n (kby va 32) = n := by rw [← hk]; exact (by first | exact kst_full hfull | exact kst_a c76 hlt | exact kst_b c83 c90 hlt | exact kst_lo c76 c83 | exact kst_hi c76 c90)
    exact mf_4 z z2 z10 z11 z12 z13 z14 z15 z16 z17 z18 z19 z22 z23 z24 z25 z26 z27 z28 z29 z30 z31 z32 z33 z36 z37 z38 z39 z40 z41 z42 z43 z44 z45 z46 z47 z48 z55 z56 z59 z60 z61 va vb vc n f (by omega) F (by have h9 : kad vc 8 (kad vb 8 (kad va 4 (kst n (kby va 32)))) = F := hF; rw [hst] at h9; exact h9) hC hr hlocks _ _ (kW.sub hw [0, 1] rfl rfl) _ (lv_sub hl [0, 3, 4, 5, 6] rfl)
  · have hlt : n < 1000 := by rcases Nat.lt_or_ge n 1000 with h9 | h9; exact h9; exact absurd (nI_le h9 (by omega)) c69
    refine lv_iload hx hb dX12_feed_72 (lv_at hl 0 rfl) ?_
    refine lv_bipush (v := 10) hx hb dX12_feed_74 (by decide) ?_
    refine lv_icmp_eq (tgt := 93) hx hb dX12_feed_76 (by decide) (fun c76 => ?_) (fun c76 => ?_)
    · refine lv_aload_n hx hb dX12_feed_93 rfl (lv_at hl 3 rfl) ?_
      refine fg_RX12_7 hC hw 0 rfl rfl dX12_feed_94 ?_
      refine lv_aload_n hx hb dX12_feed_97 rfl (lv_at hl 3 rfl) ?_
      refine fg_RX12_148 hC hw 0 rfl rfl dX12_feed_98 ?_
      refine lv_iload hx hb dX12_feed_101 (lv_at hl 0 rfl) ?_
      refine k_iast hC hw 1 rfl (vp_in_nI hlt (by decide)) dX12_feed_103 (fun H locs hw => ?_)
      obtain ⟨f_1671, ef_1671⟩ : ∃ g, g = upd f ((nI n) : Int32).toNatClampNeg x_1670 := ⟨_, rfl⟩
      have hw : kW γ A [(z, .inr (11, [.int 0, .int (nI n), .ref z2, .int 0, .int 0, .int 0, .int 0, .long 0, .int 0, .int 0, .ref z10, .ref z11, .ref z12, .ref z13, .ref z14, .ref z15, .ref z16, .ref z17, .ref z18, .ref z19, .int 0, .int 0, .ref z22, .ref z23, .ref z24, .ref z25, .ref z26, .ref z27, .ref z28, .ref z29, .ref z30, .ref z31, .ref z32, .ref z33, .int 0, .long 0, .ref z36, .ref z37, .ref z38, .ref z39, .ref z40, .ref z41, .ref z42, .ref z43, .ref z44, .ref z45, .ref z46, .ref z47, .ref z48, .int 0, .int 10, .int 0, .int 0, .int 0, .int 0, .ref z55, .ref z56, .int 0, .int 0, .ref z59, .ref z60, .ref z61, .int 0, .long 0])), (z2, .inl (γ.2.1 0, 1000, .inl f_1671))] s H locs := by rw [ef_1671]; exact hw
      refine lv_aload_n hx hb dX12_feed_104 rfl (lv_at hl 3 rfl) ?_
      refine lv_dup hx hb dX12_feed_105 rfl ?_
      refine fg_RX12_148 hC hw 0 rfl rfl dX12_feed_106 ?_
      refine lv_iconst (v := 1) hx hb dX12_feed_109 (by decide) ?_
      refine lv_iadd hx hb dX12_feed_110 ?_
      refine lv_topi (fun x_1672 ex_1672 => ?_)
      obtain rfl : x_1672 = (nI (n + 1)) := ex_1672.trans (nI_1 n)
      refine fs_RX12_148 hC hw 0 rfl rfl rfl (Nat.le_of_ble_eq_true rfl) dX12_feed_111 (fun H locs hw => ?_)
      have hw : kW γ A [(z, .inr (11, [.int 0, .int (nI (n + 1)), .ref z2, .int 0, .int 0, .int 0, .int 0, .long 0, .int 0, .int 0, .ref z10, .ref z11, .ref z12, .ref z13, .ref z14, .ref z15, .ref z16, .ref z17, .ref z18, .ref z19, .int 0, .int 0, .ref z22, .ref z23, .ref z24, .ref z25, .ref z26, .ref z27, .ref z28, .ref z29, .ref z30, .ref z31, .ref z32, .ref z33, .int 0, .long 0, .ref z36, .ref z37, .ref z38, .ref z39, .ref z40, .ref z41, .ref z42, .ref z43, .ref z44, .ref z45, .ref z46, .ref z47, .ref z48, .int 0, .int 10, .int 0, .int 0, .int 0, .int 0, .ref z55, .ref z56, .int 0, .int 0, .ref z59, .ref z60, .ref z61, .int 0, .long 0])), (z2, .inl (γ.2.1 0, 1000, .inl f_1671))] s H locs := hw
      refine lv_iinc (v := 4) (lv' := [(7, .int 4), (10, .int x_1670), (8, .long va), (0, .ref z), (1, .long va), (3, .long vb), (5, .long vc)]) hx hb dX12_feed_114 hl (k := 2) rfl (by decide) (by decide) rfl (fun ls hl => ?_)
      refine lv_goto (tgt := 8) hx hb dX12_feed_117 (by decide) ?_
      have hst : kst n (kby va 32) = (n + 1) := by rw [← hk]; exact (by first | exact kst_full hfull | exact kst_a c76 hlt | exact kst_b c83 c90 hlt | exact kst_lo c76 c83 | exact kst_hi c76 c90)
      exact mf_4 z z2 z10 z11 z12 z13 z14 z15 z16 z17 z18 z19 z22 z23 z24 z25 z26 z27 z28 z29 z30 z31 z32 z33 z36 z37 z38 z39 z40 z41 z42 z43 z44 z45 z46 z47 z48 z55 z56 z59 z60 z61 va vb vc (n + 1) f_1671 (by omega) F (by have h9 : kad vc 8 (kad vb 8 (kad va 4 (kst n (kby va 32)))) = F := hF; rw [hst] at h9; exact h9) hC hr hlocks _ _ (kW.sub hw [0, 1] rfl rfl) _ (lv_sub hl [0, 3, 4, 5, 6] rfl)
    · refine lv_iload hx hb dX12_feed_79 (lv_at hl 0 rfl) ?_
      refine lv_bipush (v := 32) hx hb dX12_feed_81 (by decide) ?_
      refine lv_icmp_lt (tgt := 114) hx hb dX12_feed_83 (by decide) (fun c83 => ?_) (fun c83 => ?_)
      · refine lv_iinc (v := 4) (lv' := [(7, .int 4), (10, .int x_1670), (8, .long va), (0, .ref z), (1, .long va), (3, .long vb), (5, .long vc)]) hx hb dX12_feed_114 hl (k := 2) rfl (by decide) (by decide) rfl (fun ls hl => ?_)
        refine lv_goto (tgt := 8) hx hb dX12_feed_117 (by decide) ?_
        have hst : kst n (kby va 32) = n := by rw [← hk]; exact (by first | exact kst_full hfull | exact kst_a c76 hlt | exact kst_b c83 c90 hlt | exact kst_lo c76 c83 | exact kst_hi c76 c90)
        exact mf_4 z z2 z10 z11 z12 z13 z14 z15 z16 z17 z18 z19 z22 z23 z24 z25 z26 z27 z28 z29 z30 z31 z32 z33 z36 z37 z38 z39 z40 z41 z42 z43 z44 z45 z46 z47 z48 z55 z56 z59 z60 z61 va vb vc n f (by omega) F (by have h9 : kad vc 8 (kad vb 8 (kad va 4 (kst n (kby va 32)))) = F := hF; rw [hst] at h9; exact h9) hC hr hlocks _ _ (kW.sub hw [0, 1] rfl rfl) _ (lv_sub hl [0, 3, 4, 5, 6] rfl)
      · refine lv_iload hx hb dX12_feed_86 (lv_at hl 0 rfl) ?_
        refine lv_bipush (v := 126) hx hb dX12_feed_88 (by decide) ?_
        refine lv_icmp_gt (tgt := 114) hx hb dX12_feed_90 (by decide) (fun c90 => ?_) (fun c90 => ?_)
        · refine lv_iinc (v := 4) (lv' := [(7, .int 4), (10, .int x_1670), (8, .long va), (0, .ref z), (1, .long va), (3, .long vb), (5, .long vc)]) hx hb dX12_feed_114 hl (k := 2) rfl (by decide) (by decide) rfl (fun ls hl => ?_)
          refine lv_goto (tgt := 8) hx hb dX12_feed_117 (by decide) ?_
          have hst : kst n (kby va 32) = n := by rw [← hk]; exact (by first | exact kst_full hfull | exact kst_a c76 hlt | exact kst_b c83 c90 hlt | exact kst_lo c76 c83 | exact kst_hi c76 c90)
          exact mf_4 z z2 z10 z11 z12 z13 z14 z15 z16 z17 z18 z19 z22 z23 z24 z25 z26 z27 z28 z29 z30 z31 z32 z33 z36 z37 z38 z39 z40 z41 z42 z43 z44 z45 z46 z47 z48 z55 z56 z59 z60 z61 va vb vc n f (by omega) F (by have h9 : kad vc 8 (kad vb 8 (kad va 4 (kst n (kby va 32)))) = F := hF; rw [hst] at h9; exact h9) hC hr hlocks _ _ (kW.sub hw [0, 1] rfl rfl) _ (lv_sub hl [0, 3, 4, 5, 6] rfl)
        · refine lv_aload_n hx hb dX12_feed_93 rfl (lv_at hl 3 rfl) ?_
          refine fg_RX12_7 hC hw 0 rfl rfl dX12_feed_94 ?_
          refine lv_aload_n hx hb dX12_feed_97 rfl (lv_at hl 3 rfl) ?_
          refine fg_RX12_148 hC hw 0 rfl rfl dX12_feed_98 ?_
          refine lv_iload hx hb dX12_feed_101 (lv_at hl 0 rfl) ?_
          refine k_iast hC hw 1 rfl (vp_in_nI hlt (by decide)) dX12_feed_103 (fun H locs hw => ?_)
          obtain ⟨f_1673, ef_1673⟩ : ∃ g, g = upd f ((nI n) : Int32).toNatClampNeg x_1670 := ⟨_, rfl⟩
          have hw : kW γ A [(z, .inr (11, [.int 0, .int (nI n), .ref z2, .int 0, .int 0, .int 0, .int 0, .long 0, .int 0, .int 0, .ref z10, .ref z11, .ref z12, .ref z13, .ref z14, .ref z15, .ref z16, .ref z17, .ref z18, .ref z19, .int 0, .int 0, .ref z22, .ref z23, .ref z24, .ref z25, .ref z26, .ref z27, .ref z28, .ref z29, .ref z30, .ref z31, .ref z32, .ref z33, .int 0, .long 0, .ref z36, .ref z37, .ref z38, .ref z39, .ref z40, .ref z41, .ref z42, .ref z43, .ref z44, .ref z45, .ref z46, .ref z47, .ref z48, .int 0, .int 10, .int 0, .int 0, .int 0, .int 0, .ref z55, .ref z56, .int 0, .int 0, .ref z59, .ref z60, .ref z61, .int 0, .long 0])), (z2, .inl (γ.2.1 0, 1000, .inl f_1673))] s H locs := by rw [ef_1673]; exact hw
          refine lv_aload_n hx hb dX12_feed_104 rfl (lv_at hl 3 rfl) ?_
          refine lv_dup hx hb dX12_feed_105 rfl ?_
          refine fg_RX12_148 hC hw 0 rfl rfl dX12_feed_106 ?_
          refine lv_iconst (v := 1) hx hb dX12_feed_109 (by decide) ?_
          refine lv_iadd hx hb dX12_feed_110 ?_
          refine lv_topi (fun x_1674 ex_1674 => ?_)
          obtain rfl : x_1674 = (nI (n + 1)) := ex_1674.trans (nI_1 n)
          refine fs_RX12_148 hC hw 0 rfl rfl rfl (Nat.le_of_ble_eq_true rfl) dX12_feed_111 (fun H locs hw => ?_)
          have hw : kW γ A [(z, .inr (11, [.int 0, .int (nI (n + 1)), .ref z2, .int 0, .int 0, .int 0, .int 0, .long 0, .int 0, .int 0, .ref z10, .ref z11, .ref z12, .ref z13, .ref z14, .ref z15, .ref z16, .ref z17, .ref z18, .ref z19, .int 0, .int 0, .ref z22, .ref z23, .ref z24, .ref z25, .ref z26, .ref z27, .ref z28, .ref z29, .ref z30, .ref z31, .ref z32, .ref z33, .int 0, .long 0, .ref z36, .ref z37, .ref z38, .ref z39, .ref z40, .ref z41, .ref z42, .ref z43, .ref z44, .ref z45, .ref z46, .ref z47, .ref z48, .int 0, .int 10, .int 0, .int 0, .int 0, .int 0, .ref z55, .ref z56, .int 0, .int 0, .ref z59, .ref z60, .ref z61, .int 0, .long 0])), (z2, .inl (γ.2.1 0, 1000, .inl f_1673))] s H locs := hw
          refine lv_iinc (v := 4) (lv' := [(7, .int 4), (10, .int x_1670), (8, .long va), (0, .ref z), (1, .long va), (3, .long vb), (5, .long vc)]) hx hb dX12_feed_114 hl (k := 2) rfl (by decide) (by decide) rfl (fun ls hl => ?_)
          refine lv_goto (tgt := 8) hx hb dX12_feed_117 (by decide) ?_
          have hst : kst n (kby va 32) = (n + 1) := by rw [← hk]; exact (by first | exact kst_full hfull | exact kst_a c76 hlt | exact kst_b c83 c90 hlt | exact kst_lo c76 c83 | exact kst_hi c76 c90)
          exact mf_4 z z2 z10 z11 z12 z13 z14 z15 z16 z17 z18 z19 z22 z23 z24 z25 z26 z27 z28 z29 z30 z31 z32 z33 z36 z37 z38 z39 z40 z41 z42 z43 z44 z45 z46 z47 z48 z55 z56 z59 z60 z61 va vb vc (n + 1) f_1673 (by omega) F (by have h9 : kad vc 8 (kad vb 8 (kad va 4 (kst n (kby va 32)))) = F := hF; rw [hst] at h9; exact h9) hC hr hlocks _ _ (kW.sub hw [0, 1] rfl rfl) _ (lv_sub hl [0, 3, 4, 5, 6] rfl)

set_option maxHeartbeats 4000000 in
set_option maxRecDepth 100000 in
theorem mf_2 {γ : kΓ} {l : Launch} {p : Program} {e : Env} {s : State} {m : MethodId} {below : List Frame} {meth : Method} {c : Code} {A : Nat → Prop} (z : Nat) (z2 : Nat) (z10 : Nat) (z11 : Nat) (z12 : Nat) (z13 : Nat) (z14 : Nat) (z15 : Nat) (z16 : Nat) (z17 : Nat) (z18 : Nat) (z19 : Nat) (z22 : Nat) (z23 : Nat) (z24 : Nat) (z25 : Nat) (z26 : Nat) (z27 : Nat) (z28 : Nat) (z29 : Nat) (z30 : Nat) (z31 : Nat) (z32 : Nat) (z33 : Nat) (z36 : Nat) (z37 : Nat) (z38 : Nat) (z39 : Nat) (z40 : Nat) (z41 : Nat) (z42 : Nat) (z43 : Nat) (z44 : Nat) (z45 : Nat) (z46 : Nat) (z47 : Nat) (z48 : Nat) (z55 : Nat) (z56 : Nat) (z59 : Nat) (z60 : Nat) (z61 : Nat) (va : Int64) (vb : Int64) (vc : Int64) (n : Nat) (f : Nat → Int32) (hn : n ≤ 1000) (F : Nat) (hF : kad vc 8 (kad vb 8 (kad va 6 n)) = F) (hC : kC γ p s m [.ref z, .long va, .long vb, .long vc].toArray c cX12_feed 11 RX12 A) (hr : meth.sig.returnType = (some .int)) (hlocks : meth.locks = false) (H : Heap) (locs : List Loc) (hw : kW γ A [(z, .inr (11, [.int 0, .int (nI n), .ref z2, .int 0, .int 0, .int 0, .int 0, .long 0, .int 0, .int 0, .ref z10, .ref z11, .ref z12, .ref z13, .ref z14, .ref z15, .ref z16, .ref z17, .ref z18, .ref z19, .int 0, .int 0, .ref z22, .ref z23, .ref z24, .ref z25, .ref z26, .ref z27, .ref z28, .ref z29, .ref z30, .ref z31, .ref z32, .ref z33, .int 0, .long 0, .ref z36, .ref z37, .ref z38, .ref z39, .ref z40, .ref z41, .ref z42, .ref z43, .ref z44, .ref z45, .ref z46, .ref z47, .ref z48, .int 0, .int 10, .int 0, .int 0, .int 0, .int 0, .ref z55, .ref z56, .int 0, .int 0, .ref z59, .ref z60, .ref z61, .int 0, .long 0])), (z2, .inl (γ.2.1 0, 1000, .inl f))] s H locs) (ls : Array Slot) (hl : lv_has ls 11 [(7, .int 2), (0, .ref z), (1, .long va), (3, .long vb), (5, .long vc)]) : W p l e ({ frames := 0, cells := 0, slots := 0, locals := 0 } : Room) s m [.ref z, .long va, .long vb, .long vc].toArray below meth c H locs 0 0 (MQ below (kQ γ A (fun r w1 => r = some (.int (nI F)) ∧ w1 = [])) [.ref z, .long va, .long vb, .long vc].toArray s 0 0 A) (F0 m 8 ls []) := by
  have hx := hC.1
  have hb := hC.2.1
  refine lv_iload hx hb dX12_feed_8 (lv_at hl 0 rfl) ?_
  refine lv_bipush (v := 24) hx hb dX12_feed_10 (by decide) ?_
  refine lv_icmp_ge (tgt := 120) hx hb dX12_feed_12 (by decide) (fun h => absurd h (by decide)) (fun _ => ?_)
  refine lv_iload hx hb dX12_feed_15 (lv_at hl 0 rfl) ?_
  refine lv_bipush (v := 8) hx hb dX12_feed_17 (by decide) ?_
  refine lv_icmp_ge (tgt := 26) hx hb dX12_feed_19 (by decide) (fun h => absurd h (by decide)) (fun _ => ?_)
  refine lv_lload_n hx hb dX12_feed_22 rfl (lv_at hl 2 rfl) ?_
  refine lv_goto (tgt := 39) hx hb dX12_feed_23 (by decide) ?_
  refine lv_lstore (lv' := [(8, .long va), (7, .int 2), (0, .ref z), (1, .long va), (3, .long vb), (5, .long vc)]) hx hb dX12_feed_39 hl (by decide) rfl (fun ls hl => ?_)
  refine lv_lload hx hb dX12_feed_41 (lv_at hl 0 rfl) ?_
  refine lv_bipush (v := 56) hx hb dX12_feed_43 (by decide) ?_
  refine lv_bipush (v := 8) hx hb dX12_feed_45 (by decide) ?_
  refine lv_iload hx hb dX12_feed_47 (lv_at hl 1 rfl) ?_
  refine lv_bipush (v := 7) hx hb dX12_feed_49 (by decide) ?_
  refine lv_iand hx hb dX12_feed_51 ?_
  refine lv_topi (fun x_1675 ex_1675 => ?_)
  obtain rfl : x_1675 = 2 := ex_1675.trans (by decide)
  refine lv_imul hx hb dX12_feed_52 ?_
  refine lv_topi (fun x_1676 ex_1676 => ?_)
  obtain rfl : x_1676 = 16 := ex_1676.trans (by decide)
  refine lv_isub hx hb dX12_feed_53 ?_
  refine lv_topi (fun x_1677 ex_1677 => ?_)
  obtain rfl : x_1677 = 40 := ex_1677.trans (by decide)
  refine lv_lushr hx hb dX12_feed_54 rfl ?_
  refine lv_topl (fun x_1678 ex_1678 => ?_)
  refine k_ldc2 hC gw_1393 dX12_feed_55 ?_
  refine lv_land hx hb dX12_feed_58 ?_
  refine lv_topl (fun x_1679 ex_1679 => ?_)
  refine lv_l2i hx hb dX12_feed_59 rfl ?_
  refine lv_topi (fun x_1680 ex_1680 => ?_)
  refine lv_istore (lv' := [(10, .int x_1680), (8, .long va), (7, .int 2), (0, .ref z), (1, .long va), (3, .long vb), (5, .long vc)]) hx hb dX12_feed_60 hl (by decide) rfl (fun ls hl => ?_)
  have hk : x_1680 = kby va 40 := by rw [ex_1680, ex_1679, k_land, ex_1678]; rfl
  refine lv_aload_n hx hb dX12_feed_62 rfl (lv_at hl 3 rfl) ?_
  refine fg_RX12_148 hC hw 0 rfl rfl dX12_feed_63 ?_
  refine lv_sipush (v := 1000) hx hb dX12_feed_66 (by decide) ?_
  refine lv_icmp_ge (tgt := 114) hx hb dX12_feed_69 (by decide) (fun c69 => ?_) (fun c69 => ?_)
  · have hfull : ¬ n < 1000 := fun h9 => absurd c69 (nI_ge h9 (by decide))
    refine lv_iinc (v := 3) (lv' := [(7, .int 3), (10, .int x_1680), (8, .long va), (0, .ref z), (1, .long va), (3, .long vb), (5, .long vc)]) hx hb dX12_feed_114 hl (k := 2) rfl (by decide) (by decide) rfl (fun ls hl => ?_)
    refine lv_goto (tgt := 8) hx hb dX12_feed_117 (by decide) ?_
    have hst : kst n (kby va 40) = n := by rw [← hk]; exact (by first | exact kst_full hfull | exact kst_a c76 hlt | exact kst_b c83 c90 hlt | exact kst_lo c76 c83 | exact kst_hi c76 c90)
    exact mf_3 z z2 z10 z11 z12 z13 z14 z15 z16 z17 z18 z19 z22 z23 z24 z25 z26 z27 z28 z29 z30 z31 z32 z33 z36 z37 z38 z39 z40 z41 z42 z43 z44 z45 z46 z47 z48 z55 z56 z59 z60 z61 va vb vc n f (by omega) F (by have h9 : kad vc 8 (kad vb 8 (kad va 5 (kst n (kby va 40)))) = F := hF; rw [hst] at h9; exact h9) hC hr hlocks _ _ (kW.sub hw [0, 1] rfl rfl) _ (lv_sub hl [0, 3, 4, 5, 6] rfl)
  · have hlt : n < 1000 := by rcases Nat.lt_or_ge n 1000 with h9 | h9; exact h9; exact absurd (nI_le h9 (by omega)) c69
    refine lv_iload hx hb dX12_feed_72 (lv_at hl 0 rfl) ?_
    refine lv_bipush (v := 10) hx hb dX12_feed_74 (by decide) ?_
    refine lv_icmp_eq (tgt := 93) hx hb dX12_feed_76 (by decide) (fun c76 => ?_) (fun c76 => ?_)
    · refine lv_aload_n hx hb dX12_feed_93 rfl (lv_at hl 3 rfl) ?_
      refine fg_RX12_7 hC hw 0 rfl rfl dX12_feed_94 ?_
      refine lv_aload_n hx hb dX12_feed_97 rfl (lv_at hl 3 rfl) ?_
      refine fg_RX12_148 hC hw 0 rfl rfl dX12_feed_98 ?_
      refine lv_iload hx hb dX12_feed_101 (lv_at hl 0 rfl) ?_
      refine k_iast hC hw 1 rfl (vp_in_nI hlt (by decide)) dX12_feed_103 (fun H locs hw => ?_)
      obtain ⟨f_1681, ef_1681⟩ : ∃ g, g = upd f ((nI n) : Int32).toNatClampNeg x_1680 := ⟨_, rfl⟩
      have hw : kW γ A [(z, .inr (11, [.int 0, .int (nI n), .ref z2, .int 0, .int 0, .int 0, .int 0, .long 0, .int 0, .int 0, .ref z10, .ref z11, .ref z12, .ref z13, .ref z14, .ref z15, .ref z16, .ref z17, .ref z18, .ref z19, .int 0, .int 0, .ref z22, .ref z23, .ref z24, .ref z25, .ref z26, .ref z27, .ref z28, .ref z29, .ref z30, .ref z31, .ref z32, .ref z33, .int 0, .long 0, .ref z36, .ref z37, .ref z38, .ref z39, .ref z40, .ref z41, .ref z42, .ref z43, .ref z44, .ref z45, .ref z46, .ref z47, .ref z48, .int 0, .int 10, .int 0, .int 0, .int 0, .int 0, .ref z55, .ref z56, .int 0, .int 0, .ref z59, .ref z60, .ref z61, .int 0, .long 0])), (z2, .inl (γ.2.1 0, 1000, .inl f_1681))] s H locs := by rw [ef_1681]; exact hw
      refine lv_aload_n hx hb dX12_feed_104 rfl (lv_at hl 3 rfl) ?_
      refine lv_dup hx hb dX12_feed_105 rfl ?_
      refine fg_RX12_148 hC hw 0 rfl rfl dX12_feed_106 ?_
      refine lv_iconst (v := 1) hx hb dX12_feed_109 (by decide) ?_
      refine lv_iadd hx hb dX12_feed_110 ?_
      refine lv_topi (fun x_1682 ex_1682 => ?_)
      obtain rfl : x_1682 = (nI (n + 1)) := ex_1682.trans (nI_1 n)
      refine fs_RX12_148 hC hw 0 rfl rfl rfl (Nat.le_of_ble_eq_true rfl) dX12_feed_111 (fun H locs hw => ?_)
      have hw : kW γ A [(z, .inr (11, [.int 0, .int (nI (n + 1)), .ref z2, .int 0, .int 0, .int 0, .int 0, .long 0, .int 0, .int 0, .ref z10, .ref z11, .ref z12, .ref z13, .ref z14, .ref z15, .ref z16, .ref z17, .ref z18, .ref z19, .int 0, .int 0, .ref z22, .ref z23, .ref z24, .ref z25, .ref z26, .ref z27, .ref z28, .ref z29, .ref z30, .ref z31, .ref z32, .ref z33, .int 0, .long 0, .ref z36, .ref z37, .ref z38, .ref z39, .ref z40, .ref z41, .ref z42, .ref z43, .ref z44, .ref z45, .ref z46, .ref z47, .ref z48, .int 0, .int 10, .int 0, .int 0, .int 0, .int 0, .ref z55, .ref z56, .int 0, .int 0, .ref z59, .ref z60, .ref z61, .int 0, .long 0])), (z2, .inl (γ.2.1 0, 1000, .inl f_1681))] s H locs := hw
      refine lv_iinc (v := 3) (lv' := [(7, .int 3), (10, .int x_1680), (8, .long va), (0, .ref z), (1, .long va), (3, .long vb), (5, .long vc)]) hx hb dX12_feed_114 hl (k := 2) rfl (by decide) (by decide) rfl (fun ls hl => ?_)
      refine lv_goto (tgt := 8) hx hb dX12_feed_117 (by decide) ?_
      have hst : kst n (kby va 40) = (n + 1) := by rw [← hk]; exact (by first | exact kst_full hfull | exact kst_a c76 hlt | exact kst_b c83 c90 hlt | exact kst_lo c76 c83 | exact kst_hi c76 c90)
      exact mf_3 z z2 z10 z11 z12 z13 z14 z15 z16 z17 z18 z19 z22 z23 z24 z25 z26 z27 z28 z29 z30 z31 z32 z33 z36 z37 z38 z39 z40 z41 z42 z43 z44 z45 z46 z47 z48 z55 z56 z59 z60 z61 va vb vc (n + 1) f_1681 (by omega) F (by have h9 : kad vc 8 (kad vb 8 (kad va 5 (kst n (kby va 40)))) = F := hF; rw [hst] at h9; exact h9) hC hr hlocks _ _ (kW.sub hw [0, 1] rfl rfl) _ (lv_sub hl [0, 3, 4, 5, 6] rfl)
    · refine lv_iload hx hb dX12_feed_79 (lv_at hl 0 rfl) ?_
      refine lv_bipush (v := 32) hx hb dX12_feed_81 (by decide) ?_
      refine lv_icmp_lt (tgt := 114) hx hb dX12_feed_83 (by decide) (fun c83 => ?_) (fun c83 => ?_)
      · refine lv_iinc (v := 3) (lv' := [(7, .int 3), (10, .int x_1680), (8, .long va), (0, .ref z), (1, .long va), (3, .long vb), (5, .long vc)]) hx hb dX12_feed_114 hl (k := 2) rfl (by decide) (by decide) rfl (fun ls hl => ?_)
        refine lv_goto (tgt := 8) hx hb dX12_feed_117 (by decide) ?_
        have hst : kst n (kby va 40) = n := by rw [← hk]; exact (by first | exact kst_full hfull | exact kst_a c76 hlt | exact kst_b c83 c90 hlt | exact kst_lo c76 c83 | exact kst_hi c76 c90)
        exact mf_3 z z2 z10 z11 z12 z13 z14 z15 z16 z17 z18 z19 z22 z23 z24 z25 z26 z27 z28 z29 z30 z31 z32 z33 z36 z37 z38 z39 z40 z41 z42 z43 z44 z45 z46 z47 z48 z55 z56 z59 z60 z61 va vb vc n f (by omega) F (by have h9 : kad vc 8 (kad vb 8 (kad va 5 (kst n (kby va 40)))) = F := hF; rw [hst] at h9; exact h9) hC hr hlocks _ _ (kW.sub hw [0, 1] rfl rfl) _ (lv_sub hl [0, 3, 4, 5, 6] rfl)
      · refine lv_iload hx hb dX12_feed_86 (lv_at hl 0 rfl) ?_
        refine lv_bipush (v := 126) hx hb dX12_feed_88 (by decide) ?_
        refine lv_icmp_gt (tgt := 114) hx hb dX12_feed_90 (by decide) (fun c90 => ?_) (fun c90 => ?_)
        · refine lv_iinc (v := 3) (lv' := [(7, .int 3), (10, .int x_1680), (8, .long va), (0, .ref z), (1, .long va), (3, .long vb), (5, .long vc)]) hx hb dX12_feed_114 hl (k := 2) rfl (by decide) (by decide) rfl (fun ls hl => ?_)
          refine lv_goto (tgt := 8) hx hb dX12_feed_117 (by decide) ?_
          have hst : kst n (kby va 40) = n := by rw [← hk]; exact (by first | exact kst_full hfull | exact kst_a c76 hlt | exact kst_b c83 c90 hlt | exact kst_lo c76 c83 | exact kst_hi c76 c90)
          exact mf_3 z z2 z10 z11 z12 z13 z14 z15 z16 z17 z18 z19 z22 z23 z24 z25 z26 z27 z28 z29 z30 z31 z32 z33 z36 z37 z38 z39 z40 z41 z42 z43 z44 z45 z46 z47 z48 z55 z56 z59 z60 z61 va vb vc n f (by omega) F (by have h9 : kad vc 8 (kad vb 8 (kad va 5 (kst n (kby va 40)))) = F := hF; rw [hst] at h9; exact h9) hC hr hlocks _ _ (kW.sub hw [0, 1] rfl rfl) _ (lv_sub hl [0, 3, 4, 5, 6] rfl)
        · refine lv_aload_n hx hb dX12_feed_93 rfl (lv_at hl 3 rfl) ?_
          refine fg_RX12_7 hC hw 0 rfl rfl dX12_feed_94 ?_
          refine lv_aload_n hx hb dX12_feed_97 rfl (lv_at hl 3 rfl) ?_
          refine fg_RX12_148 hC hw 0 rfl rfl dX12_feed_98 ?_
          refine lv_iload hx hb dX12_feed_101 (lv_at hl 0 rfl) ?_
          refine k_iast hC hw 1 rfl (vp_in_nI hlt (by decide)) dX12_feed_103 (fun H locs hw => ?_)
          obtain ⟨f_1683, ef_1683⟩ : ∃ g, g = upd f ((nI n) : Int32).toNatClampNeg x_1680 := ⟨_, rfl⟩
          have hw : kW γ A [(z, .inr (11, [.int 0, .int (nI n), .ref z2, .int 0, .int 0, .int 0, .int 0, .long 0, .int 0, .int 0, .ref z10, .ref z11, .ref z12, .ref z13, .ref z14, .ref z15, .ref z16, .ref z17, .ref z18, .ref z19, .int 0, .int 0, .ref z22, .ref z23, .ref z24, .ref z25, .ref z26, .ref z27, .ref z28, .ref z29, .ref z30, .ref z31, .ref z32, .ref z33, .int 0, .long 0, .ref z36, .ref z37, .ref z38, .ref z39, .ref z40, .ref z41, .ref z42, .ref z43, .ref z44, .ref z45, .ref z46, .ref z47, .ref z48, .int 0, .int 10, .int 0, .int 0, .int 0, .int 0, .ref z55, .ref z56, .int 0, .int 0, .ref z59, .ref z60, .ref z61, .int 0, .long 0])), (z2, .inl (γ.2.1 0, 1000, .inl f_1683))] s H locs := by rw [ef_1683]; exact hw
          refine lv_aload_n hx hb dX12_feed_104 rfl (lv_at hl 3 rfl) ?_
          refine lv_dup hx hb dX12_feed_105 rfl ?_
          refine fg_RX12_148 hC hw 0 rfl rfl dX12_feed_106 ?_
          refine lv_iconst (v := 1) hx hb dX12_feed_109 (by decide) ?_
          refine lv_iadd hx hb dX12_feed_110 ?_
          refine lv_topi (fun x_1684 ex_1684 => ?_)
          obtain rfl : x_1684 = (nI (n + 1)) := ex_1684.trans (nI_1 n)
          refine fs_RX12_148 hC hw 0 rfl rfl rfl (Nat.le_of_ble_eq_true rfl) dX12_feed_111 (fun H locs hw => ?_)
          have hw : kW γ A [(z, .inr (11, [.int 0, .int (nI (n + 1)), .ref z2, .int 0, .int 0, .int 0, .int 0, .long 0, .int 0, .int 0, .ref z10, .ref z11, .ref z12, .ref z13, .ref z14, .ref z15, .ref z16, .ref z17, .ref z18, .ref z19, .int 0, .int 0, .ref z22, .ref z23, .ref z24, .ref z25, .ref z26, .ref z27, .ref z28, .ref z29, .ref z30, .ref z31, .ref z32, .ref z33, .int 0, .long 0, .ref z36, .ref z37, .ref z38, .ref z39, .ref z40, .ref z41, .ref z42, .ref z43, .ref z44, .ref z45, .ref z46, .ref z47, .ref z48, .int 0, .int 10, .int 0, .int 0, .int 0, .int 0, .ref z55, .ref z56, .int 0, .int 0, .ref z59, .ref z60, .ref z61, .int 0, .long 0])), (z2, .inl (γ.2.1 0, 1000, .inl f_1683))] s H locs := hw
          refine lv_iinc (v := 3) (lv' := [(7, .int 3), (10, .int x_1680), (8, .long va), (0, .ref z), (1, .long va), (3, .long vb), (5, .long vc)]) hx hb dX12_feed_114 hl (k := 2) rfl (by decide) (by decide) rfl (fun ls hl => ?_)
          refine lv_goto (tgt := 8) hx hb dX12_feed_117 (by decide) ?_
          have hst : kst n (kby va 40) = (n + 1) := by rw [← hk]; exact (by first | exact kst_full hfull | exact kst_a c76 hlt | exact kst_b c83 c90 hlt | exact kst_lo c76 c83 | exact kst_hi c76 c90)
          exact mf_3 z z2 z10 z11 z12 z13 z14 z15 z16 z17 z18 z19 z22 z23 z24 z25 z26 z27 z28 z29 z30 z31 z32 z33 z36 z37 z38 z39 z40 z41 z42 z43 z44 z45 z46 z47 z48 z55 z56 z59 z60 z61 va vb vc (n + 1) f_1683 (by omega) F (by have h9 : kad vc 8 (kad vb 8 (kad va 5 (kst n (kby va 40)))) = F := hF; rw [hst] at h9; exact h9) hC hr hlocks _ _ (kW.sub hw [0, 1] rfl rfl) _ (lv_sub hl [0, 3, 4, 5, 6] rfl)

set_option maxHeartbeats 4000000 in
set_option maxRecDepth 100000 in
theorem mf_1 {γ : kΓ} {l : Launch} {p : Program} {e : Env} {s : State} {m : MethodId} {below : List Frame} {meth : Method} {c : Code} {A : Nat → Prop} (z : Nat) (z2 : Nat) (z10 : Nat) (z11 : Nat) (z12 : Nat) (z13 : Nat) (z14 : Nat) (z15 : Nat) (z16 : Nat) (z17 : Nat) (z18 : Nat) (z19 : Nat) (z22 : Nat) (z23 : Nat) (z24 : Nat) (z25 : Nat) (z26 : Nat) (z27 : Nat) (z28 : Nat) (z29 : Nat) (z30 : Nat) (z31 : Nat) (z32 : Nat) (z33 : Nat) (z36 : Nat) (z37 : Nat) (z38 : Nat) (z39 : Nat) (z40 : Nat) (z41 : Nat) (z42 : Nat) (z43 : Nat) (z44 : Nat) (z45 : Nat) (z46 : Nat) (z47 : Nat) (z48 : Nat) (z55 : Nat) (z56 : Nat) (z59 : Nat) (z60 : Nat) (z61 : Nat) (va : Int64) (vb : Int64) (vc : Int64) (n : Nat) (f : Nat → Int32) (hn : n ≤ 1000) (F : Nat) (hF : kad vc 8 (kad vb 8 (kad va 7 n)) = F) (hC : kC γ p s m [.ref z, .long va, .long vb, .long vc].toArray c cX12_feed 11 RX12 A) (hr : meth.sig.returnType = (some .int)) (hlocks : meth.locks = false) (H : Heap) (locs : List Loc) (hw : kW γ A [(z, .inr (11, [.int 0, .int (nI n), .ref z2, .int 0, .int 0, .int 0, .int 0, .long 0, .int 0, .int 0, .ref z10, .ref z11, .ref z12, .ref z13, .ref z14, .ref z15, .ref z16, .ref z17, .ref z18, .ref z19, .int 0, .int 0, .ref z22, .ref z23, .ref z24, .ref z25, .ref z26, .ref z27, .ref z28, .ref z29, .ref z30, .ref z31, .ref z32, .ref z33, .int 0, .long 0, .ref z36, .ref z37, .ref z38, .ref z39, .ref z40, .ref z41, .ref z42, .ref z43, .ref z44, .ref z45, .ref z46, .ref z47, .ref z48, .int 0, .int 10, .int 0, .int 0, .int 0, .int 0, .ref z55, .ref z56, .int 0, .int 0, .ref z59, .ref z60, .ref z61, .int 0, .long 0])), (z2, .inl (γ.2.1 0, 1000, .inl f))] s H locs) (ls : Array Slot) (hl : lv_has ls 11 [(7, .int 1), (0, .ref z), (1, .long va), (3, .long vb), (5, .long vc)]) : W p l e ({ frames := 0, cells := 0, slots := 0, locals := 0 } : Room) s m [.ref z, .long va, .long vb, .long vc].toArray below meth c H locs 0 0 (MQ below (kQ γ A (fun r w1 => r = some (.int (nI F)) ∧ w1 = [])) [.ref z, .long va, .long vb, .long vc].toArray s 0 0 A) (F0 m 8 ls []) := by
  have hx := hC.1
  have hb := hC.2.1
  refine lv_iload hx hb dX12_feed_8 (lv_at hl 0 rfl) ?_
  refine lv_bipush (v := 24) hx hb dX12_feed_10 (by decide) ?_
  refine lv_icmp_ge (tgt := 120) hx hb dX12_feed_12 (by decide) (fun h => absurd h (by decide)) (fun _ => ?_)
  refine lv_iload hx hb dX12_feed_15 (lv_at hl 0 rfl) ?_
  refine lv_bipush (v := 8) hx hb dX12_feed_17 (by decide) ?_
  refine lv_icmp_ge (tgt := 26) hx hb dX12_feed_19 (by decide) (fun h => absurd h (by decide)) (fun _ => ?_)
  refine lv_lload_n hx hb dX12_feed_22 rfl (lv_at hl 2 rfl) ?_
  refine lv_goto (tgt := 39) hx hb dX12_feed_23 (by decide) ?_
  refine lv_lstore (lv' := [(8, .long va), (7, .int 1), (0, .ref z), (1, .long va), (3, .long vb), (5, .long vc)]) hx hb dX12_feed_39 hl (by decide) rfl (fun ls hl => ?_)
  refine lv_lload hx hb dX12_feed_41 (lv_at hl 0 rfl) ?_
  refine lv_bipush (v := 56) hx hb dX12_feed_43 (by decide) ?_
  refine lv_bipush (v := 8) hx hb dX12_feed_45 (by decide) ?_
  refine lv_iload hx hb dX12_feed_47 (lv_at hl 1 rfl) ?_
  refine lv_bipush (v := 7) hx hb dX12_feed_49 (by decide) ?_
  refine lv_iand hx hb dX12_feed_51 ?_
  refine lv_topi (fun x_1685 ex_1685 => ?_)
  obtain rfl : x_1685 = 1 := ex_1685.trans (by decide)
  refine lv_imul hx hb dX12_feed_52 ?_
  refine lv_topi (fun x_1686 ex_1686 => ?_)
  obtain rfl : x_1686 = 8 := ex_1686.trans (by decide)
  refine lv_isub hx hb dX12_feed_53 ?_
  refine lv_topi (fun x_1687 ex_1687 => ?_)
  obtain rfl : x_1687 = 48 := ex_1687.trans (by decide)
  refine lv_lushr hx hb dX12_feed_54 rfl ?_
  refine lv_topl (fun x_1688 ex_1688 => ?_)
  refine k_ldc2 hC gw_1393 dX12_feed_55 ?_
  refine lv_land hx hb dX12_feed_58 ?_
  refine lv_topl (fun x_1689 ex_1689 => ?_)
  refine lv_l2i hx hb dX12_feed_59 rfl ?_
  refine lv_topi (fun x_1690 ex_1690 => ?_)
  refine lv_istore (lv' := [(10, .int x_1690), (8, .long va), (7, .int 1), (0, .ref z), (1, .long va), (3, .long vb), (5, .long vc)]) hx hb dX12_feed_60 hl (by decide) rfl (fun ls hl => ?_)
  have hk : x_1690 = kby va 48 := by rw [ex_1690, ex_1689, k_land, ex_1688]; rfl
  refine lv_aload_n hx hb dX12_feed_62 rfl (lv_at hl 3 rfl) ?_
  refine fg_RX12_148 hC hw 0 rfl rfl dX12_feed_63 ?_
  refine lv_sipush (v := 1000) hx hb dX12_feed_66 (by decide) ?_
  refine lv_icmp_ge (tgt := 114) hx hb dX12_feed_69 (by decide) (fun c69 => ?_) (fun c69 => ?_)
  · have hfull : ¬ n < 1000 := fun h9 => absurd c69 (nI_ge h9 (by decide))
    refine lv_iinc (v := 2) (lv' := [(7, .int 2), (10, .int x_1690), (8, .long va), (0, .ref z), (1, .long va), (3, .long vb), (5, .long vc)]) hx hb dX12_feed_114 hl (k := 2) rfl (by decide) (by decide) rfl (fun ls hl => ?_)
    refine lv_goto (tgt := 8) hx hb dX12_feed_117 (by decide) ?_
    have hst : kst n (kby va 48) = n := by rw [← hk]; exact (by first | exact kst_full hfull | exact kst_a c76 hlt | exact kst_b c83 c90 hlt | exact kst_lo c76 c83 | exact kst_hi c76 c90)
    exact mf_2 z z2 z10 z11 z12 z13 z14 z15 z16 z17 z18 z19 z22 z23 z24 z25 z26 z27 z28 z29 z30 z31 z32 z33 z36 z37 z38 z39 z40 z41 z42 z43 z44 z45 z46 z47 z48 z55 z56 z59 z60 z61 va vb vc n f (by omega) F (by have h9 : kad vc 8 (kad vb 8 (kad va 6 (kst n (kby va 48)))) = F := hF; rw [hst] at h9; exact h9) hC hr hlocks _ _ (kW.sub hw [0, 1] rfl rfl) _ (lv_sub hl [0, 3, 4, 5, 6] rfl)
  · have hlt : n < 1000 := by rcases Nat.lt_or_ge n 1000 with h9 | h9; exact h9; exact absurd (nI_le h9 (by omega)) c69
    refine lv_iload hx hb dX12_feed_72 (lv_at hl 0 rfl) ?_
    refine lv_bipush (v := 10) hx hb dX12_feed_74 (by decide) ?_
    refine lv_icmp_eq (tgt := 93) hx hb dX12_feed_76 (by decide) (fun c76 => ?_) (fun c76 => ?_)
    · refine lv_aload_n hx hb dX12_feed_93 rfl (lv_at hl 3 rfl) ?_
      refine fg_RX12_7 hC hw 0 rfl rfl dX12_feed_94 ?_
      refine lv_aload_n hx hb dX12_feed_97 rfl (lv_at hl 3 rfl) ?_
      refine fg_RX12_148 hC hw 0 rfl rfl dX12_feed_98 ?_
      refine lv_iload hx hb dX12_feed_101 (lv_at hl 0 rfl) ?_
      refine k_iast hC hw 1 rfl (vp_in_nI hlt (by decide)) dX12_feed_103 (fun H locs hw => ?_)
      obtain ⟨f_1691, ef_1691⟩ : ∃ g, g = upd f ((nI n) : Int32).toNatClampNeg x_1690 := ⟨_, rfl⟩
      have hw : kW γ A [(z, .inr (11, [.int 0, .int (nI n), .ref z2, .int 0, .int 0, .int 0, .int 0, .long 0, .int 0, .int 0, .ref z10, .ref z11, .ref z12, .ref z13, .ref z14, .ref z15, .ref z16, .ref z17, .ref z18, .ref z19, .int 0, .int 0, .ref z22, .ref z23, .ref z24, .ref z25, .ref z26, .ref z27, .ref z28, .ref z29, .ref z30, .ref z31, .ref z32, .ref z33, .int 0, .long 0, .ref z36, .ref z37, .ref z38, .ref z39, .ref z40, .ref z41, .ref z42, .ref z43, .ref z44, .ref z45, .ref z46, .ref z47, .ref z48, .int 0, .int 10, .int 0, .int 0, .int 0, .int 0, .ref z55, .ref z56, .int 0, .int 0, .ref z59, .ref z60, .ref z61, .int 0, .long 0])), (z2, .inl (γ.2.1 0, 1000, .inl f_1691))] s H locs := by rw [ef_1691]; exact hw
      refine lv_aload_n hx hb dX12_feed_104 rfl (lv_at hl 3 rfl) ?_
      refine lv_dup hx hb dX12_feed_105 rfl ?_
      refine fg_RX12_148 hC hw 0 rfl rfl dX12_feed_106 ?_
      refine lv_iconst (v := 1) hx hb dX12_feed_109 (by decide) ?_
      refine lv_iadd hx hb dX12_feed_110 ?_
      refine lv_topi (fun x_1692 ex_1692 => ?_)
      obtain rfl : x_1692 = (nI (n + 1)) := ex_1692.trans (nI_1 n)
      refine fs_RX12_148 hC hw 0 rfl rfl rfl (Nat.le_of_ble_eq_true rfl) dX12_feed_111 (fun H locs hw => ?_)
      have hw : kW γ A [(z, .inr (11, [.int 0, .int (nI (n + 1)), .ref z2, .int 0, .int 0, .int 0, .int 0, .long 0, .int 0, .int 0, .ref z10, .ref z11, .ref z12, .ref z13, .ref z14, .ref z15, .ref z16, .ref z17, .ref z18, .ref z19, .int 0, .int 0, .ref z22, .ref z23, .ref z24, .ref z25, .ref z26, .ref z27, .ref z28, .ref z29, .ref z30, .ref z31, .ref z32, .ref z33, .int 0, .long 0, .ref z36, .ref z37, .ref z38, .ref z39, .ref z40, .ref z41, .ref z42, .ref z43, .ref z44, .ref z45, .ref z46, .ref z47, .ref z48, .int 0, .int 10, .int 0, .int 0, .int 0, .int 0, .ref z55, .ref z56, .int 0, .int 0, .ref z59, .ref z60, .ref z61, .int 0, .long 0])), (z2, .inl (γ.2.1 0, 1000, .inl f_1691))] s H locs := hw
      refine lv_iinc (v := 2) (lv' := [(7, .int 2), (10, .int x_1690), (8, .long va), (0, .ref z), (1, .long va), (3, .long vb), (5, .long vc)]) hx hb dX12_feed_114 hl (k := 2) rfl (by decide) (by decide) rfl (fun ls hl => ?_)
      refine lv_goto (tgt := 8) hx hb dX12_feed_117 (by decide) ?_
      have hst : kst n (kby va 48) = (n + 1) := by rw [← hk]; exact (by first | exact kst_full hfull | exact kst_a c76 hlt | exact kst_b c83 c90 hlt | exact kst_lo c76 c83 | exact kst_hi c76 c90)
      exact mf_2 z z2 z10 z11 z12 z13 z14 z15 z16 z17 z18 z19 z22 z23 z24 z25 z26 z27 z28 z29 z30 z31 z32 z33 z36 z37 z38 z39 z40 z41 z42 z43 z44 z45 z46 z47 z48 z55 z56 z59 z60 z61 va vb vc (n + 1) f_1691 (by omega) F (by have h9 : kad vc 8 (kad vb 8 (kad va 6 (kst n (kby va 48)))) = F := hF; rw [hst] at h9; exact h9) hC hr hlocks _ _ (kW.sub hw [0, 1] rfl rfl) _ (lv_sub hl [0, 3, 4, 5, 6] rfl)
    · refine lv_iload hx hb dX12_feed_79 (lv_at hl 0 rfl) ?_
      refine lv_bipush (v := 32) hx hb dX12_feed_81 (by decide) ?_
      refine lv_icmp_lt (tgt := 114) hx hb dX12_feed_83 (by decide) (fun c83 => ?_) (fun c83 => ?_)
      · refine lv_iinc (v := 2) (lv' := [(7, .int 2), (10, .int x_1690), (8, .long va), (0, .ref z), (1, .long va), (3, .long vb), (5, .long vc)]) hx hb dX12_feed_114 hl (k := 2) rfl (by decide) (by decide) rfl (fun ls hl => ?_)
        refine lv_goto (tgt := 8) hx hb dX12_feed_117 (by decide) ?_
        have hst : kst n (kby va 48) = n := by rw [← hk]; exact (by first | exact kst_full hfull | exact kst_a c76 hlt | exact kst_b c83 c90 hlt | exact kst_lo c76 c83 | exact kst_hi c76 c90)
        exact mf_2 z z2 z10 z11 z12 z13 z14 z15 z16 z17 z18 z19 z22 z23 z24 z25 z26 z27 z28 z29 z30 z31 z32 z33 z36 z37 z38 z39 z40 z41 z42 z43 z44 z45 z46 z47 z48 z55 z56 z59 z60 z61 va vb vc n f (by omega) F (by have h9 : kad vc 8 (kad vb 8 (kad va 6 (kst n (kby va 48)))) = F := hF; rw [hst] at h9; exact h9) hC hr hlocks _ _ (kW.sub hw [0, 1] rfl rfl) _ (lv_sub hl [0, 3, 4, 5, 6] rfl)
      · refine lv_iload hx hb dX12_feed_86 (lv_at hl 0 rfl) ?_
        refine lv_bipush (v := 126) hx hb dX12_feed_88 (by decide) ?_
        refine lv_icmp_gt (tgt := 114) hx hb dX12_feed_90 (by decide) (fun c90 => ?_) (fun c90 => ?_)
        · refine lv_iinc (v := 2) (lv' := [(7, .int 2), (10, .int x_1690), (8, .long va), (0, .ref z), (1, .long va), (3, .long vb), (5, .long vc)]) hx hb dX12_feed_114 hl (k := 2) rfl (by decide) (by decide) rfl (fun ls hl => ?_)
          refine lv_goto (tgt := 8) hx hb dX12_feed_117 (by decide) ?_
          have hst : kst n (kby va 48) = n := by rw [← hk]; exact (by first | exact kst_full hfull | exact kst_a c76 hlt | exact kst_b c83 c90 hlt | exact kst_lo c76 c83 | exact kst_hi c76 c90)
          exact mf_2 z z2 z10 z11 z12 z13 z14 z15 z16 z17 z18 z19 z22 z23 z24 z25 z26 z27 z28 z29 z30 z31 z32 z33 z36 z37 z38 z39 z40 z41 z42 z43 z44 z45 z46 z47 z48 z55 z56 z59 z60 z61 va vb vc n f (by omega) F (by have h9 : kad vc 8 (kad vb 8 (kad va 6 (kst n (kby va 48)))) = F := hF; rw [hst] at h9; exact h9) hC hr hlocks _ _ (kW.sub hw [0, 1] rfl rfl) _ (lv_sub hl [0, 3, 4, 5, 6] rfl)
        · refine lv_aload_n hx hb dX12_feed_93 rfl (lv_at hl 3 rfl) ?_
          refine fg_RX12_7 hC hw 0 rfl rfl dX12_feed_94 ?_
          refine lv_aload_n hx hb dX12_feed_97 rfl (lv_at hl 3 rfl) ?_
          refine fg_RX12_148 hC hw 0 rfl rfl dX12_feed_98 ?_
          refine lv_iload hx hb dX12_feed_101 (lv_at hl 0 rfl) ?_
          refine k_iast hC hw 1 rfl (vp_in_nI hlt (by decide)) dX12_feed_103 (fun H locs hw => ?_)
          obtain ⟨f_1693, ef_1693⟩ : ∃ g, g = upd f ((nI n) : Int32).toNatClampNeg x_1690 := ⟨_, rfl⟩
          have hw : kW γ A [(z, .inr (11, [.int 0, .int (nI n), .ref z2, .int 0, .int 0, .int 0, .int 0, .long 0, .int 0, .int 0, .ref z10, .ref z11, .ref z12, .ref z13, .ref z14, .ref z15, .ref z16, .ref z17, .ref z18, .ref z19, .int 0, .int 0, .ref z22, .ref z23, .ref z24, .ref z25, .ref z26, .ref z27, .ref z28, .ref z29, .ref z30, .ref z31, .ref z32, .ref z33, .int 0, .long 0, .ref z36, .ref z37, .ref z38, .ref z39, .ref z40, .ref z41, .ref z42, .ref z43, .ref z44, .ref z45, .ref z46, .ref z47, .ref z48, .int 0, .int 10, .int 0, .int 0, .int 0, .int 0, .ref z55, .ref z56, .int 0, .int 0, .ref z59, .ref z60, .ref z61, .int 0, .long 0])), (z2, .inl (γ.2.1 0, 1000, .inl f_1693))] s H locs := by rw [ef_1693]; exact hw
          refine lv_aload_n hx hb dX12_feed_104 rfl (lv_at hl 3 rfl) ?_
          refine lv_dup hx hb dX12_feed_105 rfl ?_
          refine fg_RX12_148 hC hw 0 rfl rfl dX12_feed_106 ?_
          refine lv_iconst (v := 1) hx hb dX12_feed_109 (by decide) ?_
          refine lv_iadd hx hb dX12_feed_110 ?_
          refine lv_topi (fun x_1694 ex_1694 => ?_)
          obtain rfl : x_1694 = (nI (n + 1)) := ex_1694.trans (nI_1 n)
          refine fs_RX12_148 hC hw 0 rfl rfl rfl (Nat.le_of_ble_eq_true rfl) dX12_feed_111 (fun H locs hw => ?_)
          have hw : kW γ A [(z, .inr (11, [.int 0, .int (nI (n + 1)), .ref z2, .int 0, .int 0, .int 0, .int 0, .long 0, .int 0, .int 0, .ref z10, .ref z11, .ref z12, .ref z13, .ref z14, .ref z15, .ref z16, .ref z17, .ref z18, .ref z19, .int 0, .int 0, .ref z22, .ref z23, .ref z24, .ref z25, .ref z26, .ref z27, .ref z28, .ref z29, .ref z30, .ref z31, .ref z32, .ref z33, .int 0, .long 0, .ref z36, .ref z37, .ref z38, .ref z39, .ref z40, .ref z41, .ref z42, .ref z43, .ref z44, .ref z45, .ref z46, .ref z47, .ref z48, .int 0, .int 10, .int 0, .int 0, .int 0, .int 0, .ref z55, .ref z56, .int 0, .int 0, .ref z59, .ref z60, .ref z61, .int 0, .long 0])), (z2, .inl (γ.2.1 0, 1000, .inl f_1693))] s H locs := hw
          refine lv_iinc (v := 2) (lv' := [(7, .int 2), (10, .int x_1690), (8, .long va), (0, .ref z), (1, .long va), (3, .long vb), (5, .long vc)]) hx hb dX12_feed_114 hl (k := 2) rfl (by decide) (by decide) rfl (fun ls hl => ?_)
          refine lv_goto (tgt := 8) hx hb dX12_feed_117 (by decide) ?_
          have hst : kst n (kby va 48) = (n + 1) := by rw [← hk]; exact (by first | exact kst_full hfull | exact kst_a c76 hlt | exact kst_b c83 c90 hlt | exact kst_lo c76 c83 | exact kst_hi c76 c90)
          exact mf_2 z z2 z10 z11 z12 z13 z14 z15 z16 z17 z18 z19 z22 z23 z24 z25 z26 z27 z28 z29 z30 z31 z32 z33 z36 z37 z38 z39 z40 z41 z42 z43 z44 z45 z46 z47 z48 z55 z56 z59 z60 z61 va vb vc (n + 1) f_1693 (by omega) F (by have h9 : kad vc 8 (kad vb 8 (kad va 6 (kst n (kby va 48)))) = F := hF; rw [hst] at h9; exact h9) hC hr hlocks _ _ (kW.sub hw [0, 1] rfl rfl) _ (lv_sub hl [0, 3, 4, 5, 6] rfl)

set_option maxHeartbeats 4000000 in
set_option maxRecDepth 100000 in
theorem mf_0 {γ : kΓ} {l : Launch} {p : Program} {e : Env} {s : State} {m : MethodId} {below : List Frame} {meth : Method} {c : Code} {A : Nat → Prop} (z : Nat) (z2 : Nat) (z10 : Nat) (z11 : Nat) (z12 : Nat) (z13 : Nat) (z14 : Nat) (z15 : Nat) (z16 : Nat) (z17 : Nat) (z18 : Nat) (z19 : Nat) (z22 : Nat) (z23 : Nat) (z24 : Nat) (z25 : Nat) (z26 : Nat) (z27 : Nat) (z28 : Nat) (z29 : Nat) (z30 : Nat) (z31 : Nat) (z32 : Nat) (z33 : Nat) (z36 : Nat) (z37 : Nat) (z38 : Nat) (z39 : Nat) (z40 : Nat) (z41 : Nat) (z42 : Nat) (z43 : Nat) (z44 : Nat) (z45 : Nat) (z46 : Nat) (z47 : Nat) (z48 : Nat) (z55 : Nat) (z56 : Nat) (z59 : Nat) (z60 : Nat) (z61 : Nat) (va : Int64) (vb : Int64) (vc : Int64) (n : Nat) (f : Nat → Int32) (hn : n ≤ 1000) (F : Nat) (hF : kad vc 8 (kad vb 8 (kad va 8 n)) = F) (hC : kC γ p s m [.ref z, .long va, .long vb, .long vc].toArray c cX12_feed 11 RX12 A) (hr : meth.sig.returnType = (some .int)) (hlocks : meth.locks = false) (H : Heap) (locs : List Loc) (hw : kW γ A [(z, .inr (11, [.int 0, .int (nI n), .ref z2, .int 0, .int 0, .int 0, .int 0, .long 0, .int 0, .int 0, .ref z10, .ref z11, .ref z12, .ref z13, .ref z14, .ref z15, .ref z16, .ref z17, .ref z18, .ref z19, .int 0, .int 0, .ref z22, .ref z23, .ref z24, .ref z25, .ref z26, .ref z27, .ref z28, .ref z29, .ref z30, .ref z31, .ref z32, .ref z33, .int 0, .long 0, .ref z36, .ref z37, .ref z38, .ref z39, .ref z40, .ref z41, .ref z42, .ref z43, .ref z44, .ref z45, .ref z46, .ref z47, .ref z48, .int 0, .int 10, .int 0, .int 0, .int 0, .int 0, .ref z55, .ref z56, .int 0, .int 0, .ref z59, .ref z60, .ref z61, .int 0, .long 0])), (z2, .inl (γ.2.1 0, 1000, .inl f))] s H locs) (ls : Array Slot) (hl : lv_has ls 11 [(7, .int 0), (0, .ref z), (1, .long va), (3, .long vb), (5, .long vc)]) : W p l e ({ frames := 0, cells := 0, slots := 0, locals := 0 } : Room) s m [.ref z, .long va, .long vb, .long vc].toArray below meth c H locs 0 0 (MQ below (kQ γ A (fun r w1 => r = some (.int (nI F)) ∧ w1 = [])) [.ref z, .long va, .long vb, .long vc].toArray s 0 0 A) (F0 m 8 ls []) := by
  have hx := hC.1
  have hb := hC.2.1
  refine lv_iload hx hb dX12_feed_8 (lv_at hl 0 rfl) ?_
  refine lv_bipush (v := 24) hx hb dX12_feed_10 (by decide) ?_
  refine lv_icmp_ge (tgt := 120) hx hb dX12_feed_12 (by decide) (fun h => absurd h (by decide)) (fun _ => ?_)
  refine lv_iload hx hb dX12_feed_15 (lv_at hl 0 rfl) ?_
  refine lv_bipush (v := 8) hx hb dX12_feed_17 (by decide) ?_
  refine lv_icmp_ge (tgt := 26) hx hb dX12_feed_19 (by decide) (fun h => absurd h (by decide)) (fun _ => ?_)
  refine lv_lload_n hx hb dX12_feed_22 rfl (lv_at hl 2 rfl) ?_
  refine lv_goto (tgt := 39) hx hb dX12_feed_23 (by decide) ?_
  refine lv_lstore (lv' := [(8, .long va), (7, .int 0), (0, .ref z), (1, .long va), (3, .long vb), (5, .long vc)]) hx hb dX12_feed_39 hl (by decide) rfl (fun ls hl => ?_)
  refine lv_lload hx hb dX12_feed_41 (lv_at hl 0 rfl) ?_
  refine lv_bipush (v := 56) hx hb dX12_feed_43 (by decide) ?_
  refine lv_bipush (v := 8) hx hb dX12_feed_45 (by decide) ?_
  refine lv_iload hx hb dX12_feed_47 (lv_at hl 1 rfl) ?_
  refine lv_bipush (v := 7) hx hb dX12_feed_49 (by decide) ?_
  refine lv_iand hx hb dX12_feed_51 ?_
  refine lv_topi (fun x_1695 ex_1695 => ?_)
  obtain rfl : x_1695 = 0 := ex_1695.trans (by decide)
  refine lv_imul hx hb dX12_feed_52 ?_
  refine lv_topi (fun x_1696 ex_1696 => ?_)
  obtain rfl : x_1696 = 0 := ex_1696.trans (by decide)
  refine lv_isub hx hb dX12_feed_53 ?_
  refine lv_topi (fun x_1697 ex_1697 => ?_)
  obtain rfl : x_1697 = 56 := ex_1697.trans (by decide)
  refine lv_lushr hx hb dX12_feed_54 rfl ?_
  refine lv_topl (fun x_1698 ex_1698 => ?_)
  refine k_ldc2 hC gw_1393 dX12_feed_55 ?_
  refine lv_land hx hb dX12_feed_58 ?_
  refine lv_topl (fun x_1699 ex_1699 => ?_)
  refine lv_l2i hx hb dX12_feed_59 rfl ?_
  refine lv_topi (fun x_1700 ex_1700 => ?_)
  refine lv_istore (lv' := [(10, .int x_1700), (8, .long va), (7, .int 0), (0, .ref z), (1, .long va), (3, .long vb), (5, .long vc)]) hx hb dX12_feed_60 hl (by decide) rfl (fun ls hl => ?_)
  have hk : x_1700 = kby va 56 := by rw [ex_1700, ex_1699, k_land, ex_1698]; rfl
  refine lv_aload_n hx hb dX12_feed_62 rfl (lv_at hl 3 rfl) ?_
  refine fg_RX12_148 hC hw 0 rfl rfl dX12_feed_63 ?_
  refine lv_sipush (v := 1000) hx hb dX12_feed_66 (by decide) ?_
  refine lv_icmp_ge (tgt := 114) hx hb dX12_feed_69 (by decide) (fun c69 => ?_) (fun c69 => ?_)
  · have hfull : ¬ n < 1000 := fun h9 => absurd c69 (nI_ge h9 (by decide))
    refine lv_iinc (v := 1) (lv' := [(7, .int 1), (10, .int x_1700), (8, .long va), (0, .ref z), (1, .long va), (3, .long vb), (5, .long vc)]) hx hb dX12_feed_114 hl (k := 2) rfl (by decide) (by decide) rfl (fun ls hl => ?_)
    refine lv_goto (tgt := 8) hx hb dX12_feed_117 (by decide) ?_
    have hst : kst n (kby va 56) = n := by rw [← hk]; exact (by first | exact kst_full hfull | exact kst_a c76 hlt | exact kst_b c83 c90 hlt | exact kst_lo c76 c83 | exact kst_hi c76 c90)
    exact mf_1 z z2 z10 z11 z12 z13 z14 z15 z16 z17 z18 z19 z22 z23 z24 z25 z26 z27 z28 z29 z30 z31 z32 z33 z36 z37 z38 z39 z40 z41 z42 z43 z44 z45 z46 z47 z48 z55 z56 z59 z60 z61 va vb vc n f (by omega) F (by have h9 : kad vc 8 (kad vb 8 (kad va 7 (kst n (kby va 56)))) = F := hF; rw [hst] at h9; exact h9) hC hr hlocks _ _ (kW.sub hw [0, 1] rfl rfl) _ (lv_sub hl [0, 3, 4, 5, 6] rfl)
  · have hlt : n < 1000 := by rcases Nat.lt_or_ge n 1000 with h9 | h9; exact h9; exact absurd (nI_le h9 (by omega)) c69
    refine lv_iload hx hb dX12_feed_72 (lv_at hl 0 rfl) ?_
    refine lv_bipush (v := 10) hx hb dX12_feed_74 (by decide) ?_
    refine lv_icmp_eq (tgt := 93) hx hb dX12_feed_76 (by decide) (fun c76 => ?_) (fun c76 => ?_)
    · refine lv_aload_n hx hb dX12_feed_93 rfl (lv_at hl 3 rfl) ?_
      refine fg_RX12_7 hC hw 0 rfl rfl dX12_feed_94 ?_
      refine lv_aload_n hx hb dX12_feed_97 rfl (lv_at hl 3 rfl) ?_
      refine fg_RX12_148 hC hw 0 rfl rfl dX12_feed_98 ?_
      refine lv_iload hx hb dX12_feed_101 (lv_at hl 0 rfl) ?_
      refine k_iast hC hw 1 rfl (vp_in_nI hlt (by decide)) dX12_feed_103 (fun H locs hw => ?_)
      obtain ⟨f_1701, ef_1701⟩ : ∃ g, g = upd f ((nI n) : Int32).toNatClampNeg x_1700 := ⟨_, rfl⟩
      have hw : kW γ A [(z, .inr (11, [.int 0, .int (nI n), .ref z2, .int 0, .int 0, .int 0, .int 0, .long 0, .int 0, .int 0, .ref z10, .ref z11, .ref z12, .ref z13, .ref z14, .ref z15, .ref z16, .ref z17, .ref z18, .ref z19, .int 0, .int 0, .ref z22, .ref z23, .ref z24, .ref z25, .ref z26, .ref z27, .ref z28, .ref z29, .ref z30, .ref z31, .ref z32, .ref z33, .int 0, .long 0, .ref z36, .ref z37, .ref z38, .ref z39, .ref z40, .ref z41, .ref z42, .ref z43, .ref z44, .ref z45, .ref z46, .ref z47, .ref z48, .int 0, .int 10, .int 0, .int 0, .int 0, .int 0, .ref z55, .ref z56, .int 0, .int 0, .ref z59, .ref z60, .ref z61, .int 0, .long 0])), (z2, .inl (γ.2.1 0, 1000, .inl f_1701))] s H locs := by rw [ef_1701]; exact hw
      refine lv_aload_n hx hb dX12_feed_104 rfl (lv_at hl 3 rfl) ?_
      refine lv_dup hx hb dX12_feed_105 rfl ?_
      refine fg_RX12_148 hC hw 0 rfl rfl dX12_feed_106 ?_
      refine lv_iconst (v := 1) hx hb dX12_feed_109 (by decide) ?_
      refine lv_iadd hx hb dX12_feed_110 ?_
      refine lv_topi (fun x_1702 ex_1702 => ?_)
      obtain rfl : x_1702 = (nI (n + 1)) := ex_1702.trans (nI_1 n)
      refine fs_RX12_148 hC hw 0 rfl rfl rfl (Nat.le_of_ble_eq_true rfl) dX12_feed_111 (fun H locs hw => ?_)
      have hw : kW γ A [(z, .inr (11, [.int 0, .int (nI (n + 1)), .ref z2, .int 0, .int 0, .int 0, .int 0, .long 0, .int 0, .int 0, .ref z10, .ref z11, .ref z12, .ref z13, .ref z14, .ref z15, .ref z16, .ref z17, .ref z18, .ref z19, .int 0, .int 0, .ref z22, .ref z23, .ref z24, .ref z25, .ref z26, .ref z27, .ref z28, .ref z29, .ref z30, .ref z31, .ref z32, .ref z33, .int 0, .long 0, .ref z36, .ref z37, .ref z38, .ref z39, .ref z40, .ref z41, .ref z42, .ref z43, .ref z44, .ref z45, .ref z46, .ref z47, .ref z48, .int 0, .int 10, .int 0, .int 0, .int 0, .int 0, .ref z55, .ref z56, .int 0, .int 0, .ref z59, .ref z60, .ref z61, .int 0, .long 0])), (z2, .inl (γ.2.1 0, 1000, .inl f_1701))] s H locs := hw
      refine lv_iinc (v := 1) (lv' := [(7, .int 1), (10, .int x_1700), (8, .long va), (0, .ref z), (1, .long va), (3, .long vb), (5, .long vc)]) hx hb dX12_feed_114 hl (k := 2) rfl (by decide) (by decide) rfl (fun ls hl => ?_)
      refine lv_goto (tgt := 8) hx hb dX12_feed_117 (by decide) ?_
      have hst : kst n (kby va 56) = (n + 1) := by rw [← hk]; exact (by first | exact kst_full hfull | exact kst_a c76 hlt | exact kst_b c83 c90 hlt | exact kst_lo c76 c83 | exact kst_hi c76 c90)
      exact mf_1 z z2 z10 z11 z12 z13 z14 z15 z16 z17 z18 z19 z22 z23 z24 z25 z26 z27 z28 z29 z30 z31 z32 z33 z36 z37 z38 z39 z40 z41 z42 z43 z44 z45 z46 z47 z48 z55 z56 z59 z60 z61 va vb vc (n + 1) f_1701 (by omega) F (by have h9 : kad vc 8 (kad vb 8 (kad va 7 (kst n (kby va 56)))) = F := hF; rw [hst] at h9; exact h9) hC hr hlocks _ _ (kW.sub hw [0, 1] rfl rfl) _ (lv_sub hl [0, 3, 4, 5, 6] rfl)
    · refine lv_iload hx hb dX12_feed_79 (lv_at hl 0 rfl) ?_
      refine lv_bipush (v := 32) hx hb dX12_feed_81 (by decide) ?_
      refine lv_icmp_lt (tgt := 114) hx hb dX12_feed_83 (by decide) (fun c83 => ?_) (fun c83 => ?_)
      · refine lv_iinc (v := 1) (lv' := [(7, .int 1), (10, .int x_1700), (8, .long va), (0, .ref z), (1, .long va), (3, .long vb), (5, .long vc)]) hx hb dX12_feed_114 hl (k := 2) rfl (by decide) (by decide) rfl (fun ls hl => ?_)
        refine lv_goto (tgt := 8) hx hb dX12_feed_117 (by decide) ?_
        have hst : kst n (kby va 56) = n := by rw [← hk]; exact (by first | exact kst_full hfull | exact kst_a c76 hlt | exact kst_b c83 c90 hlt | exact kst_lo c76 c83 | exact kst_hi c76 c90)
        exact mf_1 z z2 z10 z11 z12 z13 z14 z15 z16 z17 z18 z19 z22 z23 z24 z25 z26 z27 z28 z29 z30 z31 z32 z33 z36 z37 z38 z39 z40 z41 z42 z43 z44 z45 z46 z47 z48 z55 z56 z59 z60 z61 va vb vc n f (by omega) F (by have h9 : kad vc 8 (kad vb 8 (kad va 7 (kst n (kby va 56)))) = F := hF; rw [hst] at h9; exact h9) hC hr hlocks _ _ (kW.sub hw [0, 1] rfl rfl) _ (lv_sub hl [0, 3, 4, 5, 6] rfl)
      · refine lv_iload hx hb dX12_feed_86 (lv_at hl 0 rfl) ?_
        refine lv_bipush (v := 126) hx hb dX12_feed_88 (by decide) ?_
        refine lv_icmp_gt (tgt := 114) hx hb dX12_feed_90 (by decide) (fun c90 => ?_) (fun c90 => ?_)
        · refine lv_iinc (v := 1) (lv' := [(7, .int 1), (10, .int x_1700), (8, .long va), (0, .ref z), (1, .long va), (3, .long vb), (5, .long vc)]) hx hb dX12_feed_114 hl (k := 2) rfl (by decide) (by decide) rfl (fun ls hl => ?_)
          refine lv_goto (tgt := 8) hx hb dX12_feed_117 (by decide) ?_
          have hst : kst n (kby va 56) = n := by rw [← hk]; exact (by first | exact kst_full hfull | exact kst_a c76 hlt | exact kst_b c83 c90 hlt | exact kst_lo c76 c83 | exact kst_hi c76 c90)
          exact mf_1 z z2 z10 z11 z12 z13 z14 z15 z16 z17 z18 z19 z22 z23 z24 z25 z26 z27 z28 z29 z30 z31 z32 z33 z36 z37 z38 z39 z40 z41 z42 z43 z44 z45 z46 z47 z48 z55 z56 z59 z60 z61 va vb vc n f (by omega) F (by have h9 : kad vc 8 (kad vb 8 (kad va 7 (kst n (kby va 56)))) = F := hF; rw [hst] at h9; exact h9) hC hr hlocks _ _ (kW.sub hw [0, 1] rfl rfl) _ (lv_sub hl [0, 3, 4, 5, 6] rfl)
        · refine lv_aload_n hx hb dX12_feed_93 rfl (lv_at hl 3 rfl) ?_
          refine fg_RX12_7 hC hw 0 rfl rfl dX12_feed_94 ?_
          refine lv_aload_n hx hb dX12_feed_97 rfl (lv_at hl 3 rfl) ?_
          refine fg_RX12_148 hC hw 0 rfl rfl dX12_feed_98 ?_
          refine lv_iload hx hb dX12_feed_101 (lv_at hl 0 rfl) ?_
          refine k_iast hC hw 1 rfl (vp_in_nI hlt (by decide)) dX12_feed_103 (fun H locs hw => ?_)
          obtain ⟨f_1703, ef_1703⟩ : ∃ g, g = upd f ((nI n) : Int32).toNatClampNeg x_1700 := ⟨_, rfl⟩
          have hw : kW γ A [(z, .inr (11, [.int 0, .int (nI n), .ref z2, .int 0, .int 0, .int 0, .int 0, .long 0, .int 0, .int 0, .ref z10, .ref z11, .ref z12, .ref z13, .ref z14, .ref z15, .ref z16, .ref z17, .ref z18, .ref z19, .int 0, .int 0, .ref z22, .ref z23, .ref z24, .ref z25, .ref z26, .ref z27, .ref z28, .ref z29, .ref z30, .ref z31, .ref z32, .ref z33, .int 0, .long 0, .ref z36, .ref z37, .ref z38, .ref z39, .ref z40, .ref z41, .ref z42, .ref z43, .ref z44, .ref z45, .ref z46, .ref z47, .ref z48, .int 0, .int 10, .int 0, .int 0, .int 0, .int 0, .ref z55, .ref z56, .int 0, .int 0, .ref z59, .ref z60, .ref z61, .int 0, .long 0])), (z2, .inl (γ.2.1 0, 1000, .inl f_1703))] s H locs := by rw [ef_1703]; exact hw
          refine lv_aload_n hx hb dX12_feed_104 rfl (lv_at hl 3 rfl) ?_
          refine lv_dup hx hb dX12_feed_105 rfl ?_
          refine fg_RX12_148 hC hw 0 rfl rfl dX12_feed_106 ?_
          refine lv_iconst (v := 1) hx hb dX12_feed_109 (by decide) ?_
          refine lv_iadd hx hb dX12_feed_110 ?_
          refine lv_topi (fun x_1704 ex_1704 => ?_)
          obtain rfl : x_1704 = (nI (n + 1)) := ex_1704.trans (nI_1 n)
          refine fs_RX12_148 hC hw 0 rfl rfl rfl (Nat.le_of_ble_eq_true rfl) dX12_feed_111 (fun H locs hw => ?_)
          have hw : kW γ A [(z, .inr (11, [.int 0, .int (nI (n + 1)), .ref z2, .int 0, .int 0, .int 0, .int 0, .long 0, .int 0, .int 0, .ref z10, .ref z11, .ref z12, .ref z13, .ref z14, .ref z15, .ref z16, .ref z17, .ref z18, .ref z19, .int 0, .int 0, .ref z22, .ref z23, .ref z24, .ref z25, .ref z26, .ref z27, .ref z28, .ref z29, .ref z30, .ref z31, .ref z32, .ref z33, .int 0, .long 0, .ref z36, .ref z37, .ref z38, .ref z39, .ref z40, .ref z41, .ref z42, .ref z43, .ref z44, .ref z45, .ref z46, .ref z47, .ref z48, .int 0, .int 10, .int 0, .int 0, .int 0, .int 0, .ref z55, .ref z56, .int 0, .int 0, .ref z59, .ref z60, .ref z61, .int 0, .long 0])), (z2, .inl (γ.2.1 0, 1000, .inl f_1703))] s H locs := hw
          refine lv_iinc (v := 1) (lv' := [(7, .int 1), (10, .int x_1700), (8, .long va), (0, .ref z), (1, .long va), (3, .long vb), (5, .long vc)]) hx hb dX12_feed_114 hl (k := 2) rfl (by decide) (by decide) rfl (fun ls hl => ?_)
          refine lv_goto (tgt := 8) hx hb dX12_feed_117 (by decide) ?_
          have hst : kst n (kby va 56) = (n + 1) := by rw [← hk]; exact (by first | exact kst_full hfull | exact kst_a c76 hlt | exact kst_b c83 c90 hlt | exact kst_lo c76 c83 | exact kst_hi c76 c90)
          exact mf_1 z z2 z10 z11 z12 z13 z14 z15 z16 z17 z18 z19 z22 z23 z24 z25 z26 z27 z28 z29 z30 z31 z32 z33 z36 z37 z38 z39 z40 z41 z42 z43 z44 z45 z46 z47 z48 z55 z56 z59 z60 z61 va vb vc (n + 1) f_1703 (by omega) F (by have h9 : kad vc 8 (kad vb 8 (kad va 7 (kst n (kby va 56)))) = F := hF; rw [hst] at h9; exact h9) hC hr hlocks _ _ (kW.sub hw [0, 1] rfl rfl) _ (lv_sub hl [0, 3, 4, 5, 6] rfl)

set_option maxHeartbeats 4000000 in
set_option maxRecDepth 100000 in
theorem c_X12_feed (γ : kΓ) (l : Launch) (z : Nat) (z2 : Nat) (z10 : Nat) (z11 : Nat) (z12 : Nat) (z13 : Nat) (z14 : Nat) (z15 : Nat) (z16 : Nat) (z17 : Nat) (z18 : Nat) (z19 : Nat) (z22 : Nat) (z23 : Nat) (z24 : Nat) (z25 : Nat) (z26 : Nat) (z27 : Nat) (z28 : Nat) (z29 : Nat) (z30 : Nat) (z31 : Nat) (z32 : Nat) (z33 : Nat) (z36 : Nat) (z37 : Nat) (z38 : Nat) (z39 : Nat) (z40 : Nat) (z41 : Nat) (z42 : Nat) (z43 : Nat) (z44 : Nat) (z45 : Nat) (z46 : Nat) (z47 : Nat) (z48 : Nat) (z55 : Nat) (z56 : Nat) (z59 : Nat) (z60 : Nat) (z61 : Nat) (va : Int64) (vb : Int64) (vc : Int64) (f : Nat → Int32) : kM γ l yX12_feed cX12_feed 11 ((some .int)) ({ frames := 0, cells := 0, slots := 0, locals := 0 } : Room) [.ref z, .long va, .long vb, .long vc] [(z, .inr (11, [.int 0, .int 0, .ref z2, .int 0, .int 0, .int 0, .int 0, .long 0, .int 0, .int 0, .ref z10, .ref z11, .ref z12, .ref z13, .ref z14, .ref z15, .ref z16, .ref z17, .ref z18, .ref z19, .int 0, .int 0, .ref z22, .ref z23, .ref z24, .ref z25, .ref z26, .ref z27, .ref z28, .ref z29, .ref z30, .ref z31, .ref z32, .ref z33, .int 0, .long 0, .ref z36, .ref z37, .ref z38, .ref z39, .ref z40, .ref z41, .ref z42, .ref z43, .ref z44, .ref z45, .ref z46, .ref z47, .ref z48, .int 0, .int 10, .int 0, .int 0, .int 0, .int 0, .ref z55, .ref z56, .int 0, .int 0, .ref z59, .ref z60, .ref z61, .int 0, .long 0])), (z2, .inl (γ.2.1 0, 1000, .inl f))] (fun r w1 => r = some (.int (nI (kad vc 8 (kad vb 8 (kad va 8 0))))) ∧ w1 = []) := by
  refine k_ofW (by decide) (Nat.le_of_ble_eq_true rfl) ?_
  intro p e s m below meth c A ls hC hr hlocks hname hw hl
  have hx := hC.1
  have hb := hC.2.1
  have hl : lv_has ls 11 [(0, .ref z), (1, .long va), (3, .long vb), (5, .long vc)] := hl
  refine lv_aload_n hx hb dX12_feed_0 rfl (lv_at hl 0 rfl) ?_
  refine lv_iconst (v := 0) hx hb dX12_feed_1 (by decide) ?_
  refine fs_RX12_143 hC hw 0 rfl rfl rfl (Nat.le_of_ble_eq_true rfl) dX12_feed_2 (fun H locs hw => ?_)
  have hw : kW γ A [(z, .inr (11, [.int 0, .int 0, .ref z2, .int 0, .int 0, .int 0, .int 0, .long 0, .int 0, .int 0, .ref z10, .ref z11, .ref z12, .ref z13, .ref z14, .ref z15, .ref z16, .ref z17, .ref z18, .ref z19, .int 0, .int 0, .ref z22, .ref z23, .ref z24, .ref z25, .ref z26, .ref z27, .ref z28, .ref z29, .ref z30, .ref z31, .ref z32, .ref z33, .int 0, .long 0, .ref z36, .ref z37, .ref z38, .ref z39, .ref z40, .ref z41, .ref z42, .ref z43, .ref z44, .ref z45, .ref z46, .ref z47, .ref z48, .int 0, .int 10, .int 0, .int 0, .int 0, .int 0, .ref z55, .ref z56, .int 0, .int 0, .ref z59, .ref z60, .ref z61, .int 0, .long 0])), (z2, .inl (γ.2.1 0, 1000, .inl f))] s H locs := hw
  refine lv_iconst (v := 0) hx hb dX12_feed_5 (by decide) ?_
  refine lv_istore (lv' := [(7, .int 0), (0, .ref z), (1, .long va), (3, .long vb), (5, .long vc)]) hx hb dX12_feed_6 hl (by decide) rfl (fun ls hl => ?_)
  exact mf_0 z z2 z10 z11 z12 z13 z14 z15 z16 z17 z18 z19 z22 z23 z24 z25 z26 z27 z28 z29 z30 z31 z32 z33 z36 z37 z38 z39 z40 z41 z42 z43 z44 z45 z46 z47 z48 z55 z56 z59 z60 z61 va vb vc 0 f (by decide) _ rfl hC hr hlocks _ _ (kW.sub hw [0, 1] rfl rfl) _ (lv_sub hl [0, 1, 2, 3, 4] rfl)


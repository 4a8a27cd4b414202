theorem dX12_feed_0 : decode cX12_feed 0 = .ok (.aload_n 0, 1) := by decide +kernel
theorem dX12_feed_1 : decode cX12_feed 1 = .ok (.iconst 0, 1) := by decide +kernel
theorem dX12_feed_2 : decode cX12_feed 2 = .ok (.putfield 143, 3) := by decide +kernel
theorem dX12_feed_5 : decode cX12_feed 5 = .ok (.iconst 0, 1) := by decide +kernel
theorem dX12_feed_6 : decode cX12_feed 6 = .ok (.istore 7, 2) := by decide +kernel
theorem dX12_feed_8 : decode cX12_feed 8 = .ok (.iload 7, 2) := by decide +kernel
theorem dX12_feed_10 : decode cX12_feed 10 = .ok (.bipush 24, 2) := by decide +kernel
theorem dX12_feed_12 : decode cX12_feed 12 = .ok (.if_icmp .ge 108, 3) := by decide +kernel
theorem dX12_feed_15 : decode cX12_feed 15 = .ok (.iload 7, 2) := by decide +kernel
theorem dX12_feed_17 : decode cX12_feed 17 = .ok (.bipush 8, 2) := by decide +kernel
theorem dX12_feed_19 : decode cX12_feed 19 = .ok (.if_icmp .ge 7, 3) := by decide +kernel
theorem dX12_feed_22 : decode cX12_feed 22 = .ok (.lload_n 1, 1) := by decide +kernel
theorem dX12_feed_23 : decode cX12_feed 23 = .ok (.goto 16, 3) := by decide +kernel
theorem dX12_feed_26 : decode cX12_feed 26 = .ok (.iload 7, 2) := by decide +kernel
theorem dX12_feed_28 : decode cX12_feed 28 = .ok (.bipush 16, 2) := by decide +kernel
theorem dX12_feed_30 : decode cX12_feed 30 = .ok (.if_icmp .ge 7, 3) := by decide +kernel
theorem dX12_feed_33 : decode cX12_feed 33 = .ok (.lload_n 3, 1) := by decide +kernel
theorem dX12_feed_34 : decode cX12_feed 34 = .ok (.goto 5, 3) := by decide +kernel
theorem dX12_feed_37 : decode cX12_feed 37 = .ok (.lload 5, 2) := by decide +kernel
theorem dX12_feed_39 : decode cX12_feed 39 = .ok (.lstore 8, 2) := by decide +kernel
theorem dX12_feed_41 : decode cX12_feed 41 = .ok (.lload 8, 2) := by decide +kernel
theorem dX12_feed_43 : decode cX12_feed 43 = .ok (.bipush 56, 2) := by decide +kernel
theorem dX12_feed_45 : decode cX12_feed 45 = .ok (.bipush 8, 2) := by decide +kernel
theorem dX12_feed_47 : decode cX12_feed 47 = .ok (.iload 7, 2) := by decide +kernel
theorem dX12_feed_49 : decode cX12_feed 49 = .ok (.bipush 7, 2) := by decide +kernel
theorem dX12_feed_51 : decode cX12_feed 51 = .ok (.iand, 1) := by decide +kernel
theorem dX12_feed_52 : decode cX12_feed 52 = .ok (.imul, 1) := by decide +kernel
theorem dX12_feed_53 : decode cX12_feed 53 = .ok (.isub, 1) := by decide +kernel
theorem dX12_feed_54 : decode cX12_feed 54 = .ok (.lushr, 1) := by decide +kernel
theorem dX12_feed_55 : decode cX12_feed 55 = .ok (.ldc2_w 146, 3) := by decide +kernel
theorem dX12_feed_58 : decode cX12_feed 58 = .ok (.land, 1) := by decide +kernel
theorem dX12_feed_59 : decode cX12_feed 59 = .ok (.l2i, 1) := by decide +kernel
theorem dX12_feed_60 : decode cX12_feed 60 = .ok (.istore 10, 2) := by decide +kernel
theorem dX12_feed_62 : decode cX12_feed 62 = .ok (.aload_n 0, 1) := by decide +kernel
theorem dX12_feed_63 : decode cX12_feed 63 = .ok (.getfield 148, 3) := by decide +kernel
theorem dX12_feed_66 : decode cX12_feed 66 = .ok (.sipush 1000, 3) := by decide +kernel
theorem dX12_feed_69 : decode cX12_feed 69 = .ok (.if_icmp .ge 45, 3) := by decide +kernel
theorem dX12_feed_72 : decode cX12_feed 72 = .ok (.iload 10, 2) := by decide +kernel
theorem dX12_feed_74 : decode cX12_feed 74 = .ok (.bipush 10, 2) := by decide +kernel
theorem dX12_feed_76 : decode cX12_feed 76 = .ok (.if_icmp .eq 17, 3) := by decide +kernel
theorem dX12_feed_79 : decode cX12_feed 79 = .ok (.iload 10, 2) := by decide +kernel
theorem dX12_feed_81 : decode cX12_feed 81 = .ok (.bipush 32, 2) := by decide +kernel
theorem dX12_feed_83 : decode cX12_feed 83 = .ok (.if_icmp .lt 31, 3) := by decide +kernel
theorem dX12_feed_86 : decode cX12_feed 86 = .ok (.iload 10, 2) := by decide +kernel
theorem dX12_feed_88 : decode cX12_feed 88 = .ok (.bipush 126, 2) := by decide +kernel
theorem dX12_feed_90 : decode cX12_feed 90 = .ok (.if_icmp .gt 24, 3) := by decide +kernel
theorem dX12_feed_93 : decode cX12_feed 93 = .ok (.aload_n 0, 1) := by decide +kernel
theorem dX12_feed_94 : decode cX12_feed 94 = .ok (.getfield 7, 3) := by decide +kernel
theorem dX12_feed_97 : decode cX12_feed 97 = .ok (.aload_n 0, 1) := by decide +kernel
theorem dX12_feed_98 : decode cX12_feed 98 = .ok (.getfield 148, 3) := by decide +kernel
theorem dX12_feed_101 : decode cX12_feed 101 = .ok (.iload 10, 2) := by decide +kernel
theorem dX12_feed_103 : decode cX12_feed 103 = .ok (.iastore, 1) := by decide +kernel
theorem dX12_feed_104 : decode cX12_feed 104 = .ok (.aload_n 0, 1) := by decide +kernel
theorem dX12_feed_105 : decode cX12_feed 105 = .ok (.dup, 1) := by decide +kernel
theorem dX12_feed_106 : decode cX12_feed 106 = .ok (.getfield 148, 3) := by decide +kernel
theorem dX12_feed_109 : decode cX12_feed 109 = .ok (.iconst 1, 1) := by decide +kernel
theorem dX12_feed_110 : decode cX12_feed 110 = .ok (.iadd, 1) := by decide +kernel
theorem dX12_feed_111 : decode cX12_feed 111 = .ok (.putfield 148, 3) := by decide +kernel
theorem dX12_feed_114 : decode cX12_feed 114 = .ok (.iinc 7 1, 3) := by decide +kernel
theorem dX12_feed_117 : decode cX12_feed 117 = .ok (.goto (-109), 3) := by decide +kernel
theorem dX12_feed_120 : decode cX12_feed 120 = .ok (.aload_n 0, 1) := by decide +kernel
theorem dX12_feed_121 : decode cX12_feed 121 = .ok (.getfield 148, 3) := by decide +kernel
theorem dX12_feed_124 : decode cX12_feed 124 = .ok (.ireturn, 1) := by decide +kernel
set_option maxHeartbeats 4000000 in
set_option maxRecDepth 100000 in
theorem mf_24 {γ : kΓ} {l : Launch} {p : Program} {e : Env} {s : State} {m : MethodId} {below : List Frame} {meth : Method} {c : Code} {A : Nat → Prop} (z : Nat) (z2 : Nat) (z10 : Nat) (z11 : Nat) (z12 : Nat) (z13 : Nat) (z14 : Nat) (z15 : Nat) (z16 : Nat) (z17 : Nat) (z18 : Nat) (z19 : Nat) (z22 : Nat) (z23 : Nat) (z24 : Nat) (z25 : Nat) (z26 : Nat) (z27 : Nat) (z28 : Nat) (z29 : Nat) (z30 : Nat) (z31 : Nat) (z32 : Nat) (z33 : Nat) (z36 : Nat) (z37 : Nat) (z38 : Nat) (z39 : Nat) (z40 : Nat) (z41 : Nat) (z42 : Nat) (z43 : Nat) (z44 : Nat) (z45 : Nat) (z46 : Nat) (z47 : Nat) (z48 : Nat) (z55 : Nat) (z56 : Nat) (z59 : Nat) (z60 : Nat) (z61 : Nat) (n3 : Int32) (n4 : Int32) (n5 : Int32) (n6 : Int32) (n7 : Int64) (n8 : Int32) (n9 : Int32) (n20 : Int32) (n21 : Int32) (n34 : Int32) (n35 : Int64) (n49 : Int32) (n50 : Int32) (n51 : Int32) (n52 : Int32) (n53 : Int32) (n54 : Int32) (n57 : Int32) (n58 : Int32) (n62 : Int32) (n63 : Int64) (va : Int64) (vb : Int64) (vc : Int64) (n : Nat) (f : Nat → Int32) (hn : n ≤ 1000) (F : Nat) (G : Nat → Int32) (hF : kad vc 0 n = F) (hG : kfa vc 0 n f = G) (hC : kC γ p s m [.ref z, .long va, .long vb, .long vc].toArray c cX12_feed 11 RX12 A) (hr : meth.sig.returnType = (some .int)) (hlocks : meth.locks = false) (H : Heap) (locs : List Loc) (hw : kW γ A [(z, .inr (11, [.int 0, .int (nI n), .ref z2, .int n3, .int n4, .int n5, .int n6, .long n7, .int n8, .int n9, .ref z10, .ref z11, .ref z12, .ref z13, .ref z14, .ref z15, .ref z16, .ref z17, .ref z18, .ref z19, .int n20, .int n21, .ref z22, .ref z23, .ref z24, .ref z25, .ref z26, .ref z27, .ref z28, .ref z29, .ref z30, .ref z31, .ref z32, .ref z33, .int n34, .long n35, .ref z36, .ref z37, .ref z38, .ref z39, .ref z40, .ref z41, .ref z42, .ref z43, .ref z44, .ref z45, .ref z46, .ref z47, .ref z48, .int n49, .int n50, .int n51, .int n52, .int n53, .int n54, .ref z55, .ref z56, .int n57, .int n58, .ref z59, .ref z60, .ref z61, .int n62, .long n63])), (z2, .inl (γ.2.1 0, 1000, .inl f))] s H locs) (ls : Array Slot) (hl : lv_has ls 11 [(7, .int 24), (0, .ref z), (1, .long va), (3, .long vb), (5, .long vc)]) : W p l e ({ frames := 0, cells := 0, slots := 0, locals := 0 } : Room) s m [.ref z, .long va, .long vb, .long vc].toArray below meth c H locs 0 0 (MQ below (kQ γ A (fun r w1 => r = some (.int (nI F)) ∧ w1 = [(z, .inr (11, [.int 0, .int (nI F), .ref z2, .int n3, .int n4, .int n5, .int n6, .long n7, .int n8, .int n9, .ref z10, .ref z11, .ref z12, .ref z13, .ref z14, .ref z15, .ref z16, .ref z17, .ref z18, .ref z19, .int n20, .int n21, .ref z22, .ref z23, .ref z24, .ref z25, .ref z26, .ref z27, .ref z28, .ref z29, .ref z30, .ref z31, .ref z32, .ref z33, .int n34, .long n35, .ref z36, .ref z37, .ref z38, .ref z39, .ref z40, .ref z41, .ref z42, .ref z43, .ref z44, .ref z45, .ref z46, .ref z47, .ref z48, .int n49, .int n50, .int n51, .int n52, .int n53, .int n54, .ref z55, .ref z56, .int n57, .int n58, .ref z59, .ref z60, .ref z61, .int n62, .long n63])), (z2, .inl (γ.2.1 0, 1000, .inl G))])) [.ref z, .long va, .long vb, .long vc].toArray s 0 0 A) (F0 m 8 ls []) := by
  have hx := hC.1
  have hb := hC.2.1
  have hF9 : n = F := hF
  have hG9 : f = G := hG
  subst hF9 hG9
  refine lv_iload hx hb dX12_feed_8 (lv_at hl 0 rfl) ?_
  refine lv_bipush (v := 24) hx hb dX12_feed_10 (by decide) ?_
  refine lv_icmp_ge (tgt := 120) hx hb dX12_feed_12 (by decide) (fun _ => ?_) (fun h => absurd (by decide) h)
  refine lv_aload_n hx hb dX12_feed_120 rfl (lv_at hl 1 rfl) ?_
  refine fg_RX12_148 hC hw 0 rfl rfl dX12_feed_121 ?_
  exact k_iret hC hr hlocks hw [0, 1] rfl rfl ⟨rfl, rfl⟩ (by decide) (by decide) dX12_feed_124

set_option maxHeartbeats 4000000 in
set_option maxRecDepth 100000 in
theorem mf_23 {γ : kΓ} {l : Launch} {p : Program} {e : Env} {s : State} {m : MethodId} {below : List Frame} {meth : Method} {c : Code} {A : Nat → Prop} (z : Nat) (z2 : Nat) (z10 : Nat) (z11 : Nat) (z12 : Nat) (z13 : Nat) (z14 : Nat) (z15 : Nat) (z16 : Nat) (z17 : Nat) (z18 : Nat) (z19 : Nat) (z22 : Nat) (z23 : Nat) (z24 : Nat) (z25 : Nat) (z26 : Nat) (z27 : Nat) (z28 : Nat) (z29 : Nat) (z30 : Nat) (z31 : Nat) (z32 : Nat) (z33 : Nat) (z36 : Nat) (z37 : Nat) (z38 : Nat) (z39 : Nat) (z40 : Nat) (z41 : Nat) (z42 : Nat) (z43 : Nat) (z44 : Nat) (z45 : Nat) (z46 : Nat) (z47 : Nat) (z48 : Nat) (z55 : Nat) (z56 : Nat) (z59 : Nat) (z60 : Nat) (z61 : Nat) (n3 : Int32) (n4 : Int32) (n5 : Int32) (n6 : Int32) (n7 : Int64) (n8 : Int32) (n9 : Int32) (n20 : Int32) (n21 : Int32) (n34 : Int32) (n35 : Int64) (n49 : Int32) (n50 : Int32) (n51 : Int32) (n52 : Int32) (n53 : Int32) (n54 : Int32) (n57 : Int32) (n58 : Int32) (n62 : Int32) (n63 : Int64) (va : Int64) (vb : Int64) (vc : Int64) (n : Nat) (f : Nat → Int32) (hn : n ≤ 1000) (F : Nat) (G : Nat → Int32) (hF : kad vc 1 n = F) (hG : kfa vc 1 n f = G) (hC : kC γ p s m [.ref z, .long va, .long vb, .long vc].toArray c cX12_feed 11 RX12 A) (hr : meth.sig.returnType = (some .int)) (hlocks : meth.locks = false) (H : Heap) (locs : List Loc) (hw : kW γ A [(z, .inr (11, [.int 0, .int (nI n), .ref z2, .int n3, .int n4, .int n5, .int n6, .long n7, .int n8, .int n9, .ref z10, .ref z11, .ref z12, .ref z13, .ref z14, .ref z15, .ref z16, .ref z17, .ref z18, .ref z19, .int n20, .int n21, .ref z22, .ref z23, .ref z24, .ref z25, .ref z26, .ref z27, .ref z28, .ref z29, .ref z30, .ref z31, .ref z32, .ref z33, .int n34, .long n35, .ref z36, .ref z37, .ref z38, .ref z39, .ref z40, .ref z41, .ref z42, .ref z43, .ref z44, .ref z45, .ref z46, .ref z47, .ref z48, .int n49, .int n50, .int n51, .int n52, .int n53, .int n54, .ref z55, .ref z56, .int n57, .int n58, .ref z59, .ref z60, .ref z61, .int n62, .long n63])), (z2, .inl (γ.2.1 0, 1000, .inl f))] s H locs) (ls : Array Slot) (hl : lv_has ls 11 [(7, .int 23), (0, .ref z), (1, .long va), (3, .long vb), (5, .long vc)]) : W p l e ({ frames := 0, cells := 0, slots := 0, locals := 0 } : Room) s m [.ref z, .long va, .long vb, .long vc].toArray below meth c H locs 0 0 (MQ below (kQ γ A (fun r w1 => r = some (.int (nI F)) ∧ w1 = [(z, .inr (11, [.int 0, .int (nI F), .ref z2, .int n3, .int n4, .int n5, .int n6, .long n7, .int n8, .int n9, .ref z10, .ref z11, .ref z12, .ref z13, .ref z14, .ref z15, .ref z16, .ref z17, .ref z18, .ref z19, .int n20, .int n21, .ref z22, .ref z23, .ref z24, .ref z25, .ref z26, .ref z27, .ref z28, .ref z29, .ref z30, .ref z31, .ref z32, .ref z33, .int n34, .long n35, .ref z36, .ref z37, .ref z38, .ref z39, .ref z40, .ref z41, .ref z42, .ref z43, .ref z44, .ref z45, .ref z46, .ref z47, .ref z48, .int n49, .int n50, .int n51, .int n52, .int n53, .int n54, .ref z55, .ref z56, .int n57, .int n58, .ref z59, .ref z60, .ref z61, .int n62, .long n63])), (z2, .inl (γ.2.1 0, 1000, .inl G))])) [.ref z, .long va, .long vb, .long vc].toArray s 0 0 A) (F0 m 8 ls []) := by
  have hx := hC.1
  have hb := hC.2.1
  refine lv_iload hx hb dX12_feed_8 (lv_at hl 0 rfl) ?_
  refine lv_bipush (v := 24) hx hb dX12_feed_10 (by decide) ?_
  refine lv_icmp_ge (tgt := 120) hx hb dX12_feed_12 (by decide) (fun h => absurd h (by decide)) (fun _ => ?_)
  refine lv_iload hx hb dX12_feed_15 (lv_at hl 0 rfl) ?_
  refine lv_bipush (v := 8) hx hb dX12_feed_17 (by decide) ?_
  refine lv_icmp_ge (tgt := 26) hx hb dX12_feed_19 (by decide) (fun _ => ?_) (fun h => absurd (by decide) h)
  refine lv_iload hx hb dX12_feed_26 (lv_at hl 0 rfl) ?_
  refine lv_bipush (v := 16) hx hb dX12_feed_28 (by decide) ?_
  refine lv_icmp_ge (tgt := 37) hx hb dX12_feed_30 (by decide) (fun _ => ?_) (fun h => absurd (by decide) h)
  refine lv_lload hx hb dX12_feed_37 (lv_at hl 4 rfl) ?_
  refine lv_lstore (lv' := [(8, .long vc), (7, .int 23), (0, .ref z), (1, .long va), (3, .long vb), (5, .long vc)]) hx hb dX12_feed_39 hl (by decide) rfl (fun ls hl => ?_)
  refine lv_lload hx hb dX12_feed_41 (lv_at hl 0 rfl) ?_
  refine lv_bipush (v := 56) hx hb dX12_feed_43 (by decide) ?_
  refine lv_bipush (v := 8) hx hb dX12_feed_45 (by decide) ?_
  refine lv_iload hx hb dX12_feed_47 (lv_at hl 1 rfl) ?_
  refine lv_bipush (v := 7) hx hb dX12_feed_49 (by decide) ?_
  refine lv_iand hx hb dX12_feed_51 ?_
  refine lv_topi (fun x_73 ex_73 => ?_)
  obtain rfl : x_73 = 7 := ex_73.trans (by decide)
  refine lv_imul hx hb dX12_feed_52 ?_
  refine lv_topi (fun x_74 ex_74 => ?_)
  obtain rfl : x_74 = 56 := ex_74.trans (by decide)
  refine lv_isub hx hb dX12_feed_53 ?_
  refine lv_topi (fun x_75 ex_75 => ?_)
  obtain rfl : x_75 = 0 := ex_75.trans (by decide)
  refine lv_lushr hx hb dX12_feed_54 rfl ?_
  refine lv_topl (fun x_76 ex_76 => ?_)
  refine k_ldc2 hC gw_1389 dX12_feed_55 ?_
  refine lv_land hx hb dX12_feed_58 ?_
  refine lv_topl (fun x_77 ex_77 => ?_)
  refine lv_l2i hx hb dX12_feed_59 rfl ?_
  refine lv_topi (fun x_78 ex_78 => ?_)
  refine lv_istore (lv' := [(10, .int x_78), (8, .long vc), (7, .int 23), (0, .ref z), (1, .long va), (3, .long vb), (5, .long vc)]) hx hb dX12_feed_60 hl (by decide) rfl (fun ls hl => ?_)
  have hk : x_78 = kby vc 0 := by rw [ex_78, ex_77, k_land, ex_76]; rfl
  refine lv_aload_n hx hb dX12_feed_62 rfl (lv_at hl 3 rfl) ?_
  refine fg_RX12_148 hC hw 0 rfl rfl dX12_feed_63 ?_
  refine lv_sipush (v := 1000) hx hb dX12_feed_66 (by decide) ?_
  refine lv_icmp_ge (tgt := 114) hx hb dX12_feed_69 (by decide) (fun c69 => ?_) (fun c69 => ?_)
  · have hfull : ¬ n < 1000 := fun h9 => absurd c69 (nI_ge h9 (by decide))
    refine lv_iinc (v := 24) (lv' := [(7, .int 24), (10, .int x_78), (8, .long vc), (0, .ref z), (1, .long va), (3, .long vb), (5, .long vc)]) hx hb dX12_feed_114 hl (k := 2) rfl (by decide) (by decide) rfl (fun ls hl => ?_)
    refine lv_goto (tgt := 8) hx hb dX12_feed_117 (by decide) ?_
    have hst : kst n (kby vc 0) = n := by rw [← hk]; exact (by first | exact kst_full hfull | exact kst_a c76 hlt | exact kst_b c83 c90 hlt | exact kst_lo c76 c83 | exact kst_hi c76 c90)
    have hup : kup f n (kby vc 0) = f := by rw [← hk]; exact (by first | exact kup_full hfull | exact kup_lo c76 c83 | exact kup_hi c76 c90)
    exact mf_24 z z2 z10 z11 z12 z13 z14 z15 z16 z17 z18 z19 z22 z23 z24 z25 z26 z27 z28 z29 z30 z31 z32 z33 z36 z37 z38 z39 z40 z41 z42 z43 z44 z45 z46 z47 z48 z55 z56 z59 z60 z61 n3 n4 n5 n6 n7 n8 n9 n20 n21 n34 n35 n49 n50 n51 n52 n53 n54 n57 n58 n62 n63 va vb vc n f (by omega) F G (by have h9 : kad vc 0 (kst n (kby vc 0)) = F := hF; rw [hst] at h9; exact h9) (by have h9 : kfa vc 0 (kst n (kby vc 0)) (kup f n (kby vc 0)) = G := hG; rw [hst, hup] at h9; exact h9) hC hr hlocks _ _ (kW.sub hw [0, 1] rfl rfl) _ (lv_sub hl [0, 3, 4, 5, 6] rfl)
  · have hlt : n < 1000 := by rcases Nat.lt_or_ge n 1000 with h9 | h9; exact h9; exact absurd (nI_le h9 (by omega)) c69
    refine lv_iload hx hb dX12_feed_72 (lv_at hl 0 rfl) ?_
    refine lv_bipush (v := 10) hx hb dX12_feed_74 (by decide) ?_
    refine lv_icmp_eq (tgt := 93) hx hb dX12_feed_76 (by decide) (fun c76 => ?_) (fun c76 => ?_)
    · refine lv_aload_n hx hb dX12_feed_93 rfl (lv_at hl 3 rfl) ?_
      refine fg_RX12_7 hC hw 0 rfl rfl dX12_feed_94 ?_
      refine lv_aload_n hx hb dX12_feed_97 rfl (lv_at hl 3 rfl) ?_
      refine fg_RX12_148 hC hw 0 rfl rfl dX12_feed_98 ?_
      refine lv_iload hx hb dX12_feed_101 (lv_at hl 0 rfl) ?_
      refine k_iast hC hw 1 rfl (vp_in_nI hlt (by decide)) dX12_feed_103 (fun H locs hw => ?_)
      obtain ⟨f_79, ef_79⟩ : ∃ g, g = upd f ((nI n) : Int32).toNatClampNeg x_78 := ⟨_, rfl⟩
      have hw : kW γ A [(z, .inr (11, [.int 0, .int (nI n), .ref z2, .int n3, .int n4, .int n5, .int n6, .long n7, .int n8, .int n9, .ref z10, .ref z11, .ref z12, .ref z13, .ref z14, .ref z15, .ref z16, .ref z17, .ref z18, .ref z19, .int n20, .int n21, .ref z22, .ref z23, .ref z24, .ref z25, .ref z26, .ref z27, .ref z28, .ref z29, .ref z30, .ref z31, .ref z32, .ref z33, .int n34, .long n35, .ref z36, .ref z37, .ref z38, .ref z39, .ref z40, .ref z41, .ref z42, .ref z43, .ref z44, .ref z45, .ref z46, .ref z47, .ref z48, .int n49, .int n50, .int n51, .int n52, .int n53, .int n54, .ref z55, .ref z56, .int n57, .int n58, .ref z59, .ref z60, .ref z61, .int n62, .long n63])), (z2, .inl (γ.2.1 0, 1000, .inl f_79))] s H locs := by rw [ef_79]; exact hw
      refine lv_aload_n hx hb dX12_feed_104 rfl (lv_at hl 3 rfl) ?_
      refine lv_dup hx hb dX12_feed_105 rfl ?_
      refine fg_RX12_148 hC hw 0 rfl rfl dX12_feed_106 ?_
      refine lv_iconst (v := 1) hx hb dX12_feed_109 (by decide) ?_
      refine lv_iadd hx hb dX12_feed_110 ?_
      refine lv_topi (fun x_80 ex_80 => ?_)
      obtain rfl : x_80 = (nI (n + 1)) := ex_80.trans (nI_1 n)
      refine fs_RX12_148 hC hw 0 rfl rfl rfl (Nat.le_of_ble_eq_true rfl) dX12_feed_111 (fun H locs hw => ?_)
      have hw : kW γ A [(z, .inr (11, [.int 0, .int (nI (n + 1)), .ref z2, .int n3, .int n4, .int n5, .int n6, .long n7, .int n8, .int n9, .ref z10, .ref z11, .ref z12, .ref z13, .ref z14, .ref z15, .ref z16, .ref z17, .ref z18, .ref z19, .int n20, .int n21, .ref z22, .ref z23, .ref z24, .ref z25, .ref z26, .ref z27, .ref z28, .ref z29, .ref z30, .ref z31, .ref z32, .ref z33, .int n34, .long n35, .ref z36, .ref z37, .ref z38, .ref z39, .ref z40, .ref z41, .ref z42, .ref z43, .ref z44, .ref z45, .ref z46, .ref z47, .ref z48, .int n49, .int n50, .int n51, .int n52, .int n53, .int n54, .ref z55, .ref z56, .int n57, .int n58, .ref z59, .ref z60, .ref z61, .int n62, .long n63])), (z2, .inl (γ.2.1 0, 1000, .inl f_79))] s H locs := hw
      refine lv_iinc (v := 24) (lv' := [(7, .int 24), (10, .int x_78), (8, .long vc), (0, .ref z), (1, .long va), (3, .long vb), (5, .long vc)]) hx hb dX12_feed_114 hl (k := 2) rfl (by decide) (by decide) rfl (fun ls hl => ?_)
      refine lv_goto (tgt := 8) hx hb dX12_feed_117 (by decide) ?_
      have hst : kst n (kby vc 0) = (n + 1) := by rw [← hk]; exact (by first | exact kst_full hfull | exact kst_a c76 hlt | exact kst_b c83 c90 hlt | exact kst_lo c76 c83 | exact kst_hi c76 c90)
      have hup : kup f n (kby vc 0) = f_79 := by rw [← hk, ef_79, nI_clamp (by omega)]; exact kup_y (by first | exact kok_a c76 | exact kok_b c83 c90) hlt
      exact mf_24 z z2 z10 z11 z12 z13 z14 z15 z16 z17 z18 z19 z22 z23 z24 z25 z26 z27 z28 z29 z30 z31 z32 z33 z36 z37 z38 z39 z40 z41 z42 z43 z44 z45 z46 z47 z48 z55 z56 z59 z60 z61 n3 n4 n5 n6 n7 n8 n9 n20 n21 n34 n35 n49 n50 n51 n52 n53 n54 n57 n58 n62 n63 va vb vc (n + 1) f_79 (by omega) F G (by have h9 : kad vc 0 (kst n (kby vc 0)) = F := hF; rw [hst] at h9; exact h9) (by have h9 : kfa vc 0 (kst n (kby vc 0)) (kup f n (kby vc 0)) = G := hG; rw [hst, hup] at h9; exact h9) hC hr hlocks _ _ (kW.sub hw [0, 1] rfl rfl) _ (lv_sub hl [0, 3, 4, 5, 6] rfl)
    · refine lv_iload hx hb dX12_feed_79 (lv_at hl 0 rfl) ?_
      refine lv_bipush (v := 32) hx hb dX12_feed_81 (by decide) ?_
      refine lv_icmp_lt (tgt := 114) hx hb dX12_feed_83 (by decide) (fun c83 => ?_) (fun c83 => ?_)
      · refine lv_iinc (v := 24) (lv' := [(7, .int 24), (10, .int x_78), (8, .long vc), (0, .ref z), (1, .long va), (3, .long vb), (5, .long vc)]) hx hb dX12_feed_114 hl (k := 2) rfl (by decide) (by decide) rfl (fun ls hl => ?_)
        refine lv_goto (tgt := 8) hx hb dX12_feed_117 (by decide) ?_
        have hst : kst n (kby vc 0) = n := by rw [← hk]; exact (by first | exact kst_full hfull | exact kst_a c76 hlt | exact kst_b c83 c90 hlt | exact kst_lo c76 c83 | exact kst_hi c76 c90)
        have hup : kup f n (kby vc 0) = f := by rw [← hk]; exact (by first | exact kup_full hfull | exact kup_lo c76 c83 | exact kup_hi c76 c90)
        exact mf_24 z z2 z10 z11 z12 z13 z14 z15 z16 z17 z18 z19 z22 z23 z24 z25 z26 z27 z28 z29 z30 z31 z32 z33 z36 z37 z38 z39 z40 z41 z42 z43 z44 z45 z46 z47 z48 z55 z56 z59 z60 z61 n3 n4 n5 n6 n7 n8 n9 n20 n21 n34 n35 n49 n50 n51 n52 n53 n54 n57 n58 n62 n63 va vb vc n f (by omega) F G (by have h9 : kad vc 0 (kst n (kby vc 0)) = F := hF; rw [hst] at h9; exact h9) (by have h9 : kfa vc 0 (kst n (kby vc 0)) (kup f n (kby vc 0)) = G := hG; rw [hst, hup] at h9; exact h9) hC hr hlocks _ _ (kW.sub hw [0, 1] rfl rfl) _ (lv_sub hl [0, 3, 4, 5, 6] rfl)
      · refine lv_iload hx hb dX12_feed_86 (lv_at hl 0 rfl) ?_
        refine lv_bipush (v := 126) hx hb dX12_feed_88 (by decide) ?_
        refine lv_icmp_gt (tgt := 114) hx hb dX12_feed_90 (by decide) (fun c90 => ?_) (fun c90 => ?_)
        · refine lv_iinc (v := 24) (lv' := [(7, .int 24), (10, .int x_78), (8, .long vc), (0, .ref z), (1, .long va), (3, .long vb), (5, .long vc)]) hx hb dX12_feed_114 hl (k := 2) rfl (by decide) (by decide) rfl (fun ls hl => ?_)
          refine lv_goto (tgt := 8) hx hb dX12_feed_117 (by decide) ?_
          have hst : kst n (kby vc 0) = n := by rw [← hk]; exact (by first | exact kst_full hfull | exact kst_a c76 hlt | exact kst_b c83 c90 hlt | exact kst_lo c76 c83 | exact kst_hi c76 c90)
          have hup : kup f n (kby vc 0) = f := by rw [← hk]; exact (by first | exact kup_full hfull | exact kup_lo c76 c83 | exact kup_hi c76 c90)
          exact mf_24 z z2 z10 z11 z12 z13 z14 z15 z16 z17 z18 z19 z22 z23 z24 z25 z26 z27 z28 z29 z30 z31 z32 z33 z36 z37 z38 z39 z40 z41 z42 z43 z44 z45 z46 z47 z48 z55 z56 z59 z60 z61 n3 n4 n5 n6 n7 n8 n9 n20 n21 n34 n35 n49 n50 n51 n52 n53 n54 n57 n58 n62 n63 va vb vc n f (by omega) F G (by have h9 : kad vc 0 (kst n (kby vc 0)) = F := hF; rw [hst] at h9; exact h9) (by have h9 : kfa vc 0 (kst n (kby vc 0)) (kup f n (kby vc 0)) = G := hG; rw [hst, hup] at h9; exact h9) hC hr hlocks _ _ (kW.sub hw [0, 1] rfl rfl) _ (lv_sub hl [0, 3, 4, 5, 6] rfl)
        · refine lv_aload_n hx hb dX12_feed_93 rfl (lv_at hl 3 rfl) ?_
          refine fg_RX12_7 hC hw 0 rfl rfl dX12_feed_94 ?_
          refine lv_aload_n hx hb dX12_feed_97 rfl (lv_at hl 3 rfl) ?_
          refine fg_RX12_148 hC hw 0 rfl rfl dX12_feed_98 ?_
          refine lv_iload hx hb dX12_feed_101 (lv_at hl 0 rfl) ?_
          refine k_iast hC hw 1 rfl (vp_in_nI hlt (by decide)) dX12_feed_103 (fun H locs hw => ?_)
          obtain ⟨f_81, ef_81⟩ : ∃ g, g = upd f ((nI n) : Int32).toNatClampNeg x_78 := ⟨_, rfl⟩
          have hw : kW γ A [(z, .inr (11, [.int 0, .int (nI n), .ref z2, .int n3, .int n4, .int n5, .int n6, .long n7, .int n8, .int n9, .ref z10, .ref z11, .ref z12, .ref z13, .ref z14, .ref z15, .ref z16, .ref z17, .ref z18, .ref z19, .int n20, .int n21, .ref z22, .ref z23, .ref z24, .ref z25, .ref z26, .ref z27, .ref z28, .ref z29, .ref z30, .ref z31, .ref z32, .ref z33, .int n34, .long n35, .ref z36, .ref z37, .ref z38, .ref z39, .ref z40, .ref z41, .ref z42, .ref z43, .ref z44, .ref z45, .ref z46, .ref z47, .ref z48, .int n49, .int n50, .int n51, .int n52, .int n53, .int n54, .ref z55, .ref z56, .int n57, .int n58, .ref z59, .ref z60, .ref z61, .int n62, .long n63])), (z2, .inl (γ.2.1 0, 1000, .inl f_81))] s H locs := by rw [ef_81]; exact hw
          refine lv_aload_n hx hb dX12_feed_104 rfl (lv_at hl 3 rfl) ?_
          refine lv_dup hx hb dX12_feed_105 rfl ?_
          refine fg_RX12_148 hC hw 0 rfl rfl dX12_feed_106 ?_
          refine lv_iconst (v := 1) hx hb dX12_feed_109 (by decide) ?_
          refine lv_iadd hx hb dX12_feed_110 ?_
          refine lv_topi (fun x_82 ex_82 => ?_)
          obtain rfl : x_82 = (nI (n + 1)) := ex_82.trans (nI_1 n)
          refine fs_RX12_148 hC hw 0 rfl rfl rfl (Nat.le_of_ble_eq_true rfl) dX12_feed_111 (fun H locs hw => ?_)
          have hw : kW γ A [(z, .inr (11, [.int 0, .int (nI (n + 1)), .ref z2, .int n3, .int n4, .int n5, .int n6, .long n7, .int n8, .int n9, .ref z10, .ref z11, .ref z12, .ref z13, .ref z14, .ref z15, .ref z16, .ref z17, .ref z18, .ref z19, .int n20, .int n21, .ref z22, .ref z23, .ref z24, .ref z25, .ref z26, .ref z27, .ref z28, .ref z29, .ref z30, .ref z31, .ref z32, .ref z33, .int n34, .long n35, .ref z36, .ref z37, .ref z38, .ref z39, .ref z40, .ref z41, .ref z42, .ref z43, .ref z44, .ref z45, .ref z46, .ref z47, .ref z48, .int n49, .int n50, .int n51, .int n52, .int n53, .int n54, .ref z55, .ref z56, .int n57, .int n58, .ref z59, .ref z60, .ref z61, .int n62, .long n63])), (z2, .inl (γ.2.1 0, 1000, .inl f_81))] s H locs := hw
          refine lv_iinc (v := 24) (lv' := [(7, .int 24), (10, .int x_78), (8, .long vc), (0, .ref z), (1, .long va), (3, .long vb), (5, .long vc)]) hx hb dX12_feed_114 hl (k := 2) rfl (by decide) (by decide) rfl (fun ls hl => ?_)
          refine lv_goto (tgt := 8) hx hb dX12_feed_117 (by decide) ?_
          have hst : kst n (kby vc 0) = (n + 1) := by rw [← hk]; exact (by first | exact kst_full hfull | exact kst_a c76 hlt | exact kst_b c83 c90 hlt | exact kst_lo c76 c83 | exact kst_hi c76 c90)
          have hup : kup f n (kby vc 0) = f_81 := by rw [← hk, ef_81, nI_clamp (by omega)]; exact kup_y (by first | exact kok_a c76 | exact kok_b c83 c90) hlt
          exact mf_24 z z2 z10 z11 z12 z13 z14 z15 z16 z17 z18 z19 z22 z23 z24 z25 z26 z27 z28 z29 z30 z31 z32 z33 z36 z37 z38 z39 z40 z41 z42 z43 z44 z45 z46 z47 z48 z55 z56 z59 z60 z61 n3 n4 n5 n6 n7 n8 n9 n20 n21 n34 n35 n49 n50 n51 n52 n53 n54 n57 n58 n62 n63 va vb vc (n + 1) f_81 (by omega) F G (by have h9 : kad vc 0 (kst n (kby vc 0)) = F := hF; rw [hst] at h9; exact h9) (by have h9 : kfa vc 0 (kst n (kby vc 0)) (kup f n (kby vc 0)) = G := hG; rw [hst, hup] at h9; exact h9) hC hr hlocks _ _ (kW.sub hw [0, 1] rfl rfl) _ (lv_sub hl [0, 3, 4, 5, 6] rfl)

set_option maxHeartbeats 4000000 in
set_option maxRecDepth 100000 in
theorem mf_22 {γ : kΓ} {l : Launch} {p : Program} {e : Env} {s : State} {m : MethodId} {below : List Frame} {meth : Method} {c : Code} {A : Nat → Prop} (z : Nat) (z2 : Nat) (z10 : Nat) (z11 : Nat) (z12 : Nat) (z13 : Nat) (z14 : Nat) (z15 : Nat) (z16 : Nat) (z17 : Nat) (z18 : Nat) (z19 : Nat) (z22 : Nat) (z23 : Nat) (z24 : Nat) (z25 : Nat) (z26 : Nat) (z27 : Nat) (z28 : Nat) (z29 : Nat) (z30 : Nat) (z31 : Nat) (z32 : Nat) (z33 : Nat) (z36 : Nat) (z37 : Nat) (z38 : Nat) (z39 : Nat) (z40 : Nat) (z41 : Nat) (z42 : Nat) (z43 : Nat) (z44 : Nat) (z45 : Nat) (z46 : Nat) (z47 : Nat) (z48 : Nat) (z55 : Nat) (z56 : Nat) (z59 : Nat) (z60 : Nat) (z61 : Nat) (n3 : Int32) (n4 : Int32) (n5 : Int32) (n6 : Int32) (n7 : Int64) (n8 : Int32) (n9 : Int32) (n20 : Int32) (n21 : Int32) (n34 : Int32) (n35 : Int64) (n49 : Int32) (n50 : Int32) (n51 : Int32) (n52 : Int32) (n53 : Int32) (n54 : Int32) (n57 : Int32) (n58 : Int32) (n62 : Int32) (n63 : Int64) (va : Int64) (vb : Int64) (vc : Int64) (n : Nat) (f : Nat → Int32) (hn : n ≤ 1000) (F : Nat) (G : Nat → Int32) (hF : kad vc 2 n = F) (hG : kfa vc 2 n f = G) (hC : kC γ p s m [.ref z, .long va, .long vb, .long vc].toArray c cX12_feed 11 RX12 A) (hr : meth.sig.returnType = (some .int)) (hlocks : meth.locks = false) (H : Heap) (locs : List Loc) (hw : kW γ A [(z, .inr (11, [.int 0, .int (nI n), .ref z2, .int n3, .int n4, .int n5, .int n6, .long n7, .int n8, .int n9, .ref z10, .ref z11, .ref z12, .ref z13, .ref z14, .ref z15, .ref z16, .ref z17, .ref z18, .ref z19, .int n20, .int n21, .ref z22, .ref z23, .ref z24, .ref z25, .ref z26, .ref z27, .ref z28, .ref z29, .ref z30, .ref z31, .ref z32, .ref z33, .int n34, .long n35, .ref z36, .ref z37, .ref z38, .ref z39, .ref z40, .ref z41, .ref z42, .ref z43, .ref z44, .ref z45, .ref z46, .ref z47, .ref z48, .int n49, .int n50, .int n51, .int n52, .int n53, .int n54, .ref z55, .ref z56, .int n57, .int n58, .ref z59, .ref z60, .ref z61, .int n62, .long n63])), (z2, .inl (γ.2.1 0, 1000, .inl f))] s H locs) (ls : Array Slot) (hl : lv_has ls 11 [(7, .int 22), (0, .ref z), (1, .long va), (3, .long vb), (5, .long vc)]) : W p l e ({ frames := 0, cells := 0, slots := 0, locals := 0 } : Room) s m [.ref z, .long va, .long vb, .long vc].toArray below meth c H locs 0 0 (MQ below (kQ γ A (fun r w1 => r = some (.int (nI F)) ∧ w1 = [(z, .inr (11, [.int 0, .int (nI F), .ref z2, .int n3, .int n4, .int n5, .int n6, .long n7, .int n8, .int n9, .ref z10, .ref z11, .ref z12, .ref z13, .ref z14, .ref z15, .ref z16, .ref z17, .ref z18, .ref z19, .int n20, .int n21, .ref z22, .ref z23, .ref z24, .ref z25, .ref z26, .ref z27, .ref z28, .ref z29, .ref z30, .ref z31, .ref z32, .ref z33, .int n34, .long n35, .ref z36, .ref z37, .ref z38, .ref z39, .ref z40, .ref z41, .ref z42, .ref z43, .ref z44, .ref z45, .ref z46, .ref z47, .ref z48, .int n49, .int n50, .int n51, .int n52, .int n53, .int n54, .ref z55, .ref z56, .int n57, .int n58, .ref z59, .ref z60, .ref z61, .int n62, .long n63])), (z2, .inl (γ.2.1 0, 1000, .inl G))])) [.ref z, .long va, .long vb, .long vc].toArray s 0 0 A) (F0 m 8 ls []) := by
  have hx := hC.1
  have hb := hC.2.1
  refine lv_iload hx hb dX12_feed_8 (lv_at hl 0 rfl) ?_
  refine lv_bipush (v := 24) hx hb dX12_feed_10 (by decide) ?_
  refine lv_icmp_ge (tgt := 120) hx hb dX12_feed_12 (by decide) (fun h => absurd h (by decide)) (fun _ => ?_)
  refine lv_iload hx hb dX12_feed_15 (lv_at hl 0 rfl) ?_
  refine lv_bipush (v := 8) hx hb dX12_feed_17 (by decide) ?_
  refine lv_icmp_ge (tgt := 26) hx hb dX12_feed_19 (by decide) (fun _ => ?_) (fun h => absurd (by decide) h)
  refine lv_iload hx hb dX12_feed_26 (lv_at hl 0 rfl) ?_
  refine lv_bipush (v := 16) hx hb dX12_feed_28 (by decide) ?_
  refine lv_icmp_ge (tgt := 37) hx hb dX12_feed_30 (by decide) (fun _ => ?_) (fun h => absurd (by decide) h)
  refine lv_lload hx hb dX12_feed_37 (lv_at hl 4 rfl) ?_
  refine lv_lstore (lv' := [(8, .long vc), (7, .int 22), (0, .ref z), (1, .long va), (3, .long vb), (5, .long vc)]) hx hb dX12_feed_39 hl (by decide) rfl (fun ls hl => ?_)
  refine lv_lload hx hb dX12_feed_41 (lv_at hl 0 rfl) ?_
  refine lv_bipush (v := 56) hx hb dX12_feed_43 (by decide) ?_
  refine lv_bipush (v := 8) hx hb dX12_feed_45 (by decide) ?_
  refine lv_iload hx hb dX12_feed_47 (lv_at hl 1 rfl) ?_
  refine lv_bipush (v := 7) hx hb dX12_feed_49 (by decide) ?_
  refine lv_iand hx hb dX12_feed_51 ?_
  refine lv_topi (fun x_83 ex_83 => ?_)
  obtain rfl : x_83 = 6 := ex_83.trans (by decide)
  refine lv_imul hx hb dX12_feed_52 ?_
  refine lv_topi (fun x_84 ex_84 => ?_)
  obtain rfl : x_84 = 48 := ex_84.trans (by decide)
  refine lv_isub hx hb dX12_feed_53 ?_
  refine lv_topi (fun x_85 ex_85 => ?_)
  obtain rfl : x_85 = 8 := ex_85.trans (by decide)
  refine lv_lushr hx hb dX12_feed_54 rfl ?_
  refine lv_topl (fun x_86 ex_86 => ?_)
  refine k_ldc2 hC gw_1389 dX12_feed_55 ?_
  refine lv_land hx hb dX12_feed_58 ?_
  refine lv_topl (fun x_87 ex_87 => ?_)
  refine lv_l2i hx hb dX12_feed_59 rfl ?_
  refine lv_topi (fun x_88 ex_88 => ?_)
  refine lv_istore (lv' := [(10, .int x_88), (8, .long vc), (7, .int 22), (0, .ref z), (1, .long va), (3, .long vb), (5, .long vc)]) hx hb dX12_feed_60 hl (by decide) rfl (fun ls hl => ?_)
  have hk : x_88 = kby vc 8 := by rw [ex_88, ex_87, k_land, ex_86]; rfl
  refine lv_aload_n hx hb dX12_feed_62 rfl (lv_at hl 3 rfl) ?_
  refine fg_RX12_148 hC hw 0 rfl rfl dX12_feed_63 ?_
  refine lv_sipush (v := 1000) hx hb dX12_feed_66 (by decide) ?_
  refine lv_icmp_ge (tgt := 114) hx hb dX12_feed_69 (by decide) (fun c69 => ?_) (fun c69 => ?_)
  · have hfull : ¬ n < 1000 := fun h9 => absurd c69 (nI_ge h9 (by decide))
    refine lv_iinc (v := 23) (lv' := [(7, .int 23), (10, .int x_88), (8, .long vc), (0, .ref z), (1, .long va), (3, .long vb), (5, .long vc)]) hx hb dX12_feed_114 hl (k := 2) rfl (by decide) (by decide) rfl (fun ls hl => ?_)
    refine lv_goto (tgt := 8) hx hb dX12_feed_117 (by decide) ?_
    have hst : kst n (kby vc 8) = n := by rw [← hk]; exact (by first | exact kst_full hfull | exact kst_a c76 hlt | exact kst_b c83 c90 hlt | exact kst_lo c76 c83 | exact kst_hi c76 c90)
    have hup : kup f n (kby vc 8) = f := by rw [← hk]; exact (by first | exact kup_full hfull | exact kup_lo c76 c83 | exact kup_hi c76 c90)
    exact mf_23 z z2 z10 z11 z12 z13 z14 z15 z16 z17 z18 z19 z22 z23 z24 z25 z26 z27 z28 z29 z30 z31 z32 z33 z36 z37 z38 z39 z40 z41 z42 z43 z44 z45 z46 z47 z48 z55 z56 z59 z60 z61 n3 n4 n5 n6 n7 n8 n9 n20 n21 n34 n35 n49 n50 n51 n52 n53 n54 n57 n58 n62 n63 va vb vc n f (by omega) F G (by have h9 : kad vc 1 (kst n (kby vc 8)) = F := hF; rw [hst] at h9; exact h9) (by have h9 : kfa vc 1 (kst n (kby vc 8)) (kup f n (kby vc 8)) = G := hG; rw [hst, hup] at h9; exact h9) hC hr hlocks _ _ (kW.sub hw [0, 1] rfl rfl) _ (lv_sub hl [0, 3, 4, 5, 6] rfl)
  · have hlt : n < 1000 := by rcases Nat.lt_or_ge n 1000 with h9 | h9; exact h9; exact absurd (nI_le h9 (by omega)) c69
    refine lv_iload hx hb dX12_feed_72 (lv_at hl 0 rfl) ?_
    refine lv_bipush (v := 10) hx hb dX12_feed_74 (by decide) ?_
    refine lv_icmp_eq (tgt := 93) hx hb dX12_feed_76 (by decide) (fun c76 => ?_) (fun c76 => ?_)
    · refine lv_aload_n hx hb dX12_feed_93 rfl (lv_at hl 3 rfl) ?_
      refine fg_RX12_7 hC hw 0 rfl rfl dX12_feed_94 ?_
      refine lv_aload_n hx hb dX12_feed_97 rfl (lv_at hl 3 rfl) ?_
      refine fg_RX12_148 hC hw 0 rfl rfl dX12_feed_98 ?_
      refine lv_iload hx hb dX12_feed_101 (lv_at hl 0 rfl) ?_
      refine k_iast hC hw 1 rfl (vp_in_nI hlt (by decide)) dX12_feed_103 (fun H locs hw => ?_)
      obtain ⟨f_89, ef_89⟩ : ∃ g, g = upd f ((nI n) : Int32).toNatClampNeg x_88 := ⟨_, rfl⟩
      have hw : kW γ A [(z, .inr (11, [.int 0, .int (nI n), .ref z2, .int n3, .int n4, .int n5, .int n6, .long n7, .int n8, .int n9, .ref z10, .ref z11, .ref z12, .ref z13, .ref z14, .ref z15, .ref z16, .ref z17, .ref z18, .ref z19, .int n20, .int n21, .ref z22, .ref z23, .ref z24, .ref z25, .ref z26, .ref z27, .ref z28, .ref z29, .ref z30, .ref z31, .ref z32, .ref z33, .int n34, .long n35, .ref z36, .ref z37, .ref z38, .ref z39, .ref z40, .ref z41, .ref z42, .ref z43, .ref z44, .ref z45, .ref z46, .ref z47, .ref z48, .int n49, .int n50, .int n51, .int n52, .int n53, .int n54, .ref z55, .ref z56, .int n57, .int n58, .ref z59, .ref z60, .ref z61, .int n62, .long n63])), (z2, .inl (γ.2.1 0, 1000, .inl f_89))] s H locs := by rw [ef_89]; exact hw
      refine lv_aload_n hx hb dX12_feed_104 rfl (lv_at hl 3 rfl) ?_
      refine lv_dup hx hb dX12_feed_105 rfl ?_
      refine fg_RX12_148 hC hw 0 rfl rfl dX12_feed_106 ?_
      refine lv_iconst (v := 1) hx hb dX12_feed_109 (by decide) ?_
      refine lv_iadd hx hb dX12_feed_110 ?_
      refine lv_topi (fun x_90 ex_90 => ?_)
      obtain rfl : x_90 = (nI (n + 1)) := ex_90.trans (nI_1 n)
      refine fs_RX12_148 hC hw 0 rfl rfl rfl (Nat.le_of_ble_eq_true rfl) dX12_feed_111 (fun H locs hw => ?_)
      have hw : kW γ A [(z, .inr (11, [.int 0, .int (nI (n + 1)), .ref z2, .int n3, .int n4, .int n5, .int n6, .long n7, .int n8, .int n9, .ref z10, .ref z11, .ref z12, .ref z13, .ref z14, .ref z15, .ref z16, .ref z17, .ref z18, .ref z19, .int n20, .int n21, .ref z22, .ref z23, .ref z24, .ref z25, .ref z26, .ref z27, .ref z28, .ref z29, .ref z30, .ref z31, .ref z32, .ref z33, .int n34, .long n35, .ref z36, .ref z37, .ref z38, .ref z39, .ref z40, .ref z41, .ref z42, .ref z43, .ref z44, .ref z45, .ref z46, .ref z47, .ref z48, .int n49, .int n50, .int n51, .int n52, .int n53, .int n54, .ref z55, .ref z56, .int n57, .int n58, .ref z59, .ref z60, .ref z61, .int n62, .long n63])), (z2, .inl (γ.2.1 0, 1000, .inl f_89))] s H locs := hw
      refine lv_iinc (v := 23) (lv' := [(7, .int 23), (10, .int x_88), (8, .long vc), (0, .ref z), (1, .long va), (3, .long vb), (5, .long vc)]) hx hb dX12_feed_114 hl (k := 2) rfl (by decide) (by decide) rfl (fun ls hl => ?_)
      refine lv_goto (tgt := 8) hx hb dX12_feed_117 (by decide) ?_
      have hst : kst n (kby vc 8) = (n + 1) := by rw [← hk]; exact (by first | exact kst_full hfull | exact kst_a c76 hlt | exact kst_b c83 c90 hlt | exact kst_lo c76 c83 | exact kst_hi c76 c90)
      have hup : kup f n (kby vc 8) = f_89 := by rw [← hk, ef_89, nI_clamp (by omega)]; exact kup_y (by first | exact kok_a c76 | exact kok_b c83 c90) hlt
      exact mf_23 z z2 z10 z11 z12 z13 z14 z15 z16 z17 z18 z19 z22 z23 z24 z25 z26 z27 z28 z29 z30 z31 z32 z33 z36 z37 z38 z39 z40 z41 z42 z43 z44 z45 z46 z47 z48 z55 z56 z59 z60 z61 n3 n4 n5 n6 n7 n8 n9 n20 n21 n34 n35 n49 n50 n51 n52 n53 n54 n57 n58 n62 n63 va vb vc (n + 1) f_89 (by omega) F G (by have h9 : kad vc 1 (kst n (kby vc 8)) = F := hF; rw [hst] at h9; exact h9) (by have h9 : kfa vc 1 (kst n (kby vc 8)) (kup f n (kby vc 8)) = G := hG; rw [hst, hup] at h9; exact h9) hC hr hlocks _ _ (kW.sub hw [0, 1] rfl rfl) _ (lv_sub hl [0, 3, 4, 5, 6] rfl)
    · refine lv_iload hx hb dX12_feed_79 (lv_at hl 0 rfl) ?_
      refine lv_bipush (v := 32) hx hb dX12_feed_81 (by decide) ?_
      refine lv_icmp_lt (tgt := 114) hx hb dX12_feed_83 (by decide) (fun c83 => ?_) (fun c83 => ?_)
      · refine lv_iinc (v := 23) (lv' := [(7, .int 23), (10, .int x_88), (8, .long vc), (0, .ref z), (1, .long va), (3, .long vb), (5, .long vc)]) hx hb dX12_feed_114 hl (k := 2) rfl (by decide) (by decide) rfl (fun ls hl => ?_)
        refine lv_goto (tgt := 8) hx hb dX12_feed_117 (by decide) ?_
        have hst : kst n (kby vc 8) = n := by rw [← hk]; exact (by first | exact kst_full hfull | exact kst_a c76 hlt | exact kst_b c83 c90 hlt | exact kst_lo c76 c83 | exact kst_hi c76 c90)
        have hup : kup f n (kby vc 8) = f := by rw [← hk]; exact (by first | exact kup_full hfull | exact kup_lo c76 c83 | exact kup_hi c76 c90)
        exact mf_23 z z2 z10 z11 z12 z13 z14 z15 z16 z17 z18 z19 z22 z23 z24 z25 z26 z27 z28 z29 z30 z31 z32 z33 z36 z37 z38 z39 z40 z41 z42 z43 z44 z45 z46 z47 z48 z55 z56 z59 z60 z61 n3 n4 n5 n6 n7 n8 n9 n20 n21 n34 n35 n49 n50 n51 n52 n53 n54 n57 n58 n62 n63 va vb vc n f (by omega) F G (by have h9 : kad vc 1 (kst n (kby vc 8)) = F := hF; rw [hst] at h9; exact h9) (by have h9 : kfa vc 1 (kst n (kby vc 8)) (kup f n (kby vc 8)) = G := hG; rw [hst, hup] at h9; exact h9) hC hr hlocks _ _ (kW.sub hw [0, 1] rfl rfl) _ (lv_sub hl [0, 3, 4, 5, 6] rfl)
      · refine lv_iload hx hb dX12_feed_86 (lv_at hl 0 rfl) ?_
        refine lv_bipush (v := 126) hx hb dX12_feed_88 (by decide) ?_
        refine lv_icmp_gt (tgt := 114) hx hb dX12_feed_90 (by decide) (fun c90 => ?_) (fun c90 => ?_)
        · refine lv_iinc (v := 23) (lv' := [(7, .int 23), (10, .int x_88), (8, .long vc), (0, .ref z), (1, .long va), (3, .long vb), (5, .long vc)]) hx hb dX12_feed_114 hl (k := 2) rfl (by decide) (by decide) rfl (fun ls hl => ?_)
          refine lv_goto (tgt := 8) hx hb dX12_feed_117 (by decide) ?_
          have hst : kst n (kby vc 8) = n := by rw [← hk]; exact (by first | exact kst_full hfull | exact kst_a c76 hlt | exact kst_b c83 c90 hlt | exact kst_lo c76 c83 | exact kst_hi c76 c90)
          have hup : kup f n (kby vc 8) = f := by rw [← hk]; exact (by first | exact kup_full hfull | exact kup_lo c76 c83 | exact kup_hi c76 c90)
          exact mf_23 z z2 z10 z11 z12 z13 z14 z15 z16 z17 z18 z19 z22 z23 z24 z25 z26 z27 z28 z29 z30 z31 z32 z33 z36 z37 z38 z39 z40 z41 z42 z43 z44 z45 z46 z47 z48 z55 z56 z59 z60 z61 n3 n4 n5 n6 n7 n8 n9 n20 n21 n34 n35 n49 n50 n51 n52 n53 n54 n57 n58 n62 n63 va vb vc n f (by omega) F G (by have h9 : kad vc 1 (kst n (kby vc 8)) = F := hF; rw [hst] at h9; exact h9) (by have h9 : kfa vc 1 (kst n (kby vc 8)) (kup f n (kby vc 8)) = G := hG; rw [hst, hup] at h9; exact h9) hC hr hlocks _ _ (kW.sub hw [0, 1] rfl rfl) _ (lv_sub hl [0, 3, 4, 5, 6] rfl)
        · refine lv_aload_n hx hb dX12_feed_93 rfl (lv_at hl 3 rfl) ?_
          refine fg_RX12_7 hC hw 0 rfl rfl dX12_feed_94 ?_
          refine lv_aload_n hx hb dX12_feed_97 rfl (lv_at hl 3 rfl) ?_
          refine fg_RX12_148 hC hw 0 rfl rfl dX12_feed_98 ?_
          refine lv_iload hx hb dX12_feed_101 (lv_at hl 0 rfl) ?_
          refine k_iast hC hw 1 rfl (vp_in_nI hlt (by decide)) dX12_feed_103 (fun H locs hw => ?_)
          obtain ⟨f_91, ef_91⟩ : ∃ g, g = upd f ((nI n) : Int32).toNatClampNeg x_88 := ⟨_, rfl⟩
          have hw : kW γ A [(z, .inr (11, [.int 0, .int (nI n), .ref z2, .int n3, .int n4, .int n5, .int n6, .long n7, .int n8, .int n9, .ref z10, .ref z11, .ref z12, .ref z13, .ref z14, .ref z15, .ref z16, .ref z17, .ref z18, .ref z19, .int n20, .int n21, .ref z22, .ref z23, .ref z24, .ref z25, .ref z26, .ref z27, .ref z28, .ref z29, .ref z30, .ref z31, .ref z32, .ref z33, .int n34, .long n35, .ref z36, .ref z37, .ref z38, .ref z39, .ref z40, .ref z41, .ref z42, .ref z43, .ref z44, .ref z45, .ref z46, .ref z47, .ref z48, .int n49, .int n50, .int n51, .int n52, .int n53, .int n54, .ref z55, .ref z56, .int n57, .int n58, .ref z59, .ref z60, .ref z61, .int n62, .long n63])), (z2, .inl (γ.2.1 0, 1000, .inl f_91))] s H locs := by rw [ef_91]; exact hw
          refine lv_aload_n hx hb dX12_feed_104 rfl (lv_at hl 3 rfl) ?_
          refine lv_dup hx hb dX12_feed_105 rfl ?_
          refine fg_RX12_148 hC hw 0 rfl rfl dX12_feed_106 ?_
          refine lv_iconst (v := 1) hx hb dX12_feed_109 (by decide) ?_
          refine lv_iadd hx hb dX12_feed_110 ?_
          refine lv_topi (fun x_92 ex_92 => ?_)
          obtain rfl : x_92 = (nI (n + 1)) := ex_92.trans (nI_1 n)
          refine fs_RX12_148 hC hw 0 rfl rfl rfl (Nat.le_of_ble_eq_true rfl) dX12_feed_111 (fun H locs hw => ?_)
          have hw : kW γ A [(z, .inr (11, [.int 0, .int (nI (n + 1)), .ref z2, .int n3, .int n4, .int n5, .int n6, .long n7, .int n8, .int n9, .ref z10, .ref z11, .ref z12, .ref z13, .ref z14, .ref z15, .ref z16, .ref z17, .ref z18, .ref z19, .int n20, .int n21, .ref z22, .ref z23, .ref z24, .ref z25, .ref z26, .ref z27, .ref z28, .ref z29, .ref z30, .ref z31, .ref z32, .ref z33, .int n34, .long n35, .ref z36, .ref z37, .ref z38, .ref z39, .ref z40, .ref z41, .ref z42, .ref z43, .ref z44, .ref z45, .ref z46, .ref z47, .ref z48, .int n49, .int n50, .int n51, .int n52, .int n53, .int n54, .ref z55, .ref z56, .int n57, .int n58, .ref z59, .ref z60, .ref z61, .int n62, .long n63])), (z2, .inl (γ.2.1 0, 1000, .inl f_91))] s H locs := hw
          refine lv_iinc (v := 23) (lv' := [(7, .int 23), (10, .int x_88), (8, .long vc), (0, .ref z), (1, .long va), (3, .long vb), (5, .long vc)]) hx hb dX12_feed_114 hl (k := 2) rfl (by decide) (by decide) rfl (fun ls hl => ?_)
          refine lv_goto (tgt := 8) hx hb dX12_feed_117 (by decide) ?_
          have hst : kst n (kby vc 8) = (n + 1) := by rw [← hk]; exact (by first | exact kst_full hfull | exact kst_a c76 hlt | exact kst_b c83 c90 hlt | exact kst_lo c76 c83 | exact kst_hi c76 c90)
          have hup : kup f n (kby vc 8) = f_91 := by rw [← hk, ef_91, nI_clamp (by omega)]; exact kup_y (by first | exact kok_a c76 | exact kok_b c83 c90) hlt
          exact mf_23 z z2 z10 z11 z12 z13 z14 z15 z16 z17 z18 z19 z22 z23 z24 z25 z26 z27 z28 z29 z30 z31 z32 z33 z36 z37 z38 z39 z40 z41 z42 z43 z44 z45 z46 z47 z48 z55 z56 z59 z60 z61 n3 n4 n5 n6 n7 n8 n9 n20 n21 n34 n35 n49 n50 n51 n52 n53 n54 n57 n58 n62 n63 va vb vc (n + 1) f_91 (by omega) F G (by have h9 : kad vc 1 (kst n (kby vc 8)) = F := hF; rw [hst] at h9; exact h9) (by have h9 : kfa vc 1 (kst n (kby vc 8)) (kup f n (kby vc 8)) = G := hG; rw [hst, hup] at h9; exact h9) hC hr hlocks _ _ (kW.sub hw [0, 1] rfl rfl) _ (lv_sub hl [0, 3, 4, 5, 6] rfl)

set_option maxHeartbeats 4000000 in
set_option maxRecDepth 100000 in
theorem mf_21 {γ : kΓ} {l : Launch} {p : Program} {e : Env} {s : State} {m : MethodId} {below : List Frame} {meth : Method} {c : Code} {A : Nat → Prop} (z : Nat) (z2 : Nat) (z10 : Nat) (z11 : Nat) (z12 : Nat) (z13 : Nat) (z14 : Nat) (z15 : Nat) (z16 : Nat) (z17 : Nat) (z18 : Nat) (z19 : Nat) (z22 : Nat) (z23 : Nat) (z24 : Nat) (z25 : Nat) (z26 : Nat) (z27 : Nat) (z28 : Nat) (z29 : Nat) (z30 : Nat) (z31 : Nat) (z32 : Nat) (z33 : Nat) (z36 : Nat) (z37 : Nat) (z38 : Nat) (z39 : Nat) (z40 : Nat) (z41 : Nat) (z42 : Nat) (z43 : Nat) (z44 : Nat) (z45 : Nat) (z46 : Nat) (z47 : Nat) (z48 : Nat) (z55 : Nat) (z56 : Nat) (z59 : Nat) (z60 : Nat) (z61 : Nat) (n3 : Int32) (n4 : Int32) (n5 : Int32) (n6 : Int32) (n7 : Int64) (n8 : Int32) (n9 : Int32) (n20 : Int32) (n21 : Int32) (n34 : Int32) (n35 : Int64) (n49 : Int32) (n50 : Int32) (n51 : Int32) (n52 : Int32) (n53 : Int32) (n54 : Int32) (n57 : Int32) (n58 : Int32) (n62 : Int32) (n63 : Int64) (va : Int64) (vb : Int64) (vc : Int64) (n : Nat) (f : Nat → Int32) (hn : n ≤ 1000) (F : Nat) (G : Nat → Int32) (hF : kad vc 3 n = F) (hG : kfa vc 3 n f = G) (hC : kC γ p s m [.ref z, .long va, .long vb, .long vc].toArray c cX12_feed 11 RX12 A) (hr : meth.sig.returnType = (some .int)) (hlocks : meth.locks = false) (H : Heap) (locs : List Loc) (hw : kW γ A [(z, .inr (11, [.int 0, .int (nI n), .ref z2, .int n3, .int n4, .int n5, .int n6, .long n7, .int n8, .int n9, .ref z10, .ref z11, .ref z12, .ref z13, .ref z14, .ref z15, .ref z16, .ref z17, .ref z18, .ref z19, .int n20, .int n21, .ref z22, .ref z23, .ref z24, .ref z25, .ref z26, .ref z27, .ref z28, .ref z29, .ref z30, .ref z31, .ref z32, .ref z33, .int n34, .long n35, .ref z36, .ref z37, .ref z38, .ref z39, .ref z40, .ref z41, .ref z42, .ref z43, .ref z44, .ref z45, .ref z46, .ref z47, .ref z48, .int n49, .int n50, .int n51, .int n52, .int n53, .int n54, .ref z55, .ref z56, .int n57, .int n58, .ref z59, .ref z60, .ref z61, .int n62, .long n63])), (z2, .inl (γ.2.1 0, 1000, .inl f))] s H locs) (ls : Array Slot) (hl : lv_has ls 11 [(7, .int 21), (0, .ref z), (1, .long va), (3, .long vb), (5, .long vc)]) : W p l e ({ frames := 0, cells := 0, slots := 0, locals := 0 } : Room) s m [.ref z, .long va, .long vb, .long vc].toArray below meth c H locs 0 0 (MQ below (kQ γ A (fun r w1 => r = some (.int (nI F)) ∧ w1 = [(z, .inr (11, [.int 0, .int (nI F), .ref z2, .int n3, .int n4, .int n5, .int n6, .long n7, .int n8, .int n9, .ref z10, .ref z11, .ref z12, .ref z13, .ref z14, .ref z15, .ref z16, .ref z17, .ref z18, .ref z19, .int n20, .int n21, .ref z22, .ref z23, .ref z24, .ref z25, .ref z26, .ref z27, .ref z28, .ref z29, .ref z30, .ref z31, .ref z32, .ref z33, .int n34, .long n35, .ref z36, .ref z37, .ref z38, .ref z39, .ref z40, .ref z41, .ref z42, .ref z43, .ref z44, .ref z45, .ref z46, .ref z47, .ref z48, .int n49, .int n50, .int n51, .int n52, .int n53, .int n54, .ref z55, .ref z56, .int n57, .int n58, .ref z59, .ref z60, .ref z61, .int n62, .long n63])), (z2, .inl (γ.2.1 0, 1000, .inl G))])) [.ref z, .long va, .long vb, .long vc].toArray s 0 0 A) (F0 m 8 ls []) := by
  have hx := hC.1
  have hb := hC.2.1
  refine lv_iload hx hb dX12_feed_8 (lv_at hl 0 rfl) ?_
  refine lv_bipush (v := 24) hx hb dX12_feed_10 (by decide) ?_
  refine lv_icmp_ge (tgt := 120) hx hb dX12_feed_12 (by decide) (fun h => absurd h (by decide)) (fun _ => ?_)
  refine lv_iload hx hb dX12_feed_15 (lv_at hl 0 rfl) ?_
  refine lv_bipush (v := 8) hx hb dX12_feed_17 (by decide) ?_
  refine lv_icmp_ge (tgt := 26) hx hb dX12_feed_19 (by decide) (fun _ => ?_) (fun h => absurd (by decide) h)
  refine lv_iload hx hb dX12_feed_26 (lv_at hl 0 rfl) ?_
  refine lv_bipush (v := 16) hx hb dX12_feed_28 (by decide) ?_
  refine lv_icmp_ge (tgt := 37) hx hb dX12_feed_30 (by decide) (fun _ => ?_) (fun h => absurd (by decide) h)
  refine lv_lload hx hb dX12_feed_37 (lv_at hl 4 rfl) ?_
  refine lv_lstore (lv' := [(8, .long vc), (7, .int 21), (0, .ref z), (1, .long va), (3, .long vb), (5, .long vc)]) hx hb dX12_feed_39 hl (by decide) rfl (fun ls hl => ?_)
  refine lv_lload hx hb dX12_feed_41 (lv_at hl 0 rfl) ?_
  refine lv_bipush (v := 56) hx hb dX12_feed_43 (by decide) ?_
  refine lv_bipush (v := 8) hx hb dX12_feed_45 (by decide) ?_
  refine lv_iload hx hb dX12_feed_47 (lv_at hl 1 rfl) ?_
  refine lv_bipush (v := 7) hx hb dX12_feed_49 (by decide) ?_
  refine lv_iand hx hb dX12_feed_51 ?_
  refine lv_topi (fun x_93 ex_93 => ?_)
  obtain rfl : x_93 = 5 := ex_93.trans (by decide)
  refine lv_imul hx hb dX12_feed_52 ?_
  refine lv_topi (fun x_94 ex_94 => ?_)
  obtain rfl : x_94 = 40 := ex_94.trans (by decide)
  refine lv_isub hx hb dX12_feed_53 ?_
  refine lv_topi (fun x_95 ex_95 => ?_)
  obtain rfl : x_95 = 16 := ex_95.trans (by decide)
  refine lv_lushr hx hb dX12_feed_54 rfl ?_
  refine lv_topl (fun x_96 ex_96 => ?_)
  refine k_ldc2 hC gw_1389 dX12_feed_55 ?_
  refine lv_land hx hb dX12_feed_58 ?_
  refine lv_topl (fun x_97 ex_97 => ?_)
  refine lv_l2i hx hb dX12_feed_59 rfl ?_
  refine lv_topi (fun x_98 ex_98 => ?_)
  refine lv_istore (lv' := [(10, .int x_98), (8, .long vc), (7, .int 21), (0, .ref z), (1, .long va), (3, .long vb), (5, .long vc)]) hx hb dX12_feed_60 hl (by decide) rfl (fun ls hl => ?_)
  have hk : x_98 = kby vc 16 := by rw [ex_98, ex_97, k_land, ex_96]; rfl
  refine lv_aload_n hx hb dX12_feed_62 rfl (lv_at hl 3 rfl) ?_
  refine fg_RX12_148 hC hw 0 rfl rfl dX12_feed_63 ?_
  refine lv_sipush (v := 1000) hx hb dX12_feed_66 (by decide) ?_
  refine lv_icmp_ge (tgt := 114) hx hb dX12_feed_69 (by decide) (fun c69 => ?_) (fun c69 => ?_)
  · have hfull : ¬ n < 1000 := fun h9 => absurd c69 (nI_ge h9 (by decide))
    refine lv_iinc (v := 22) (lv' := [(7, .int 22), (10, .int x_98), (8, .long vc), (0, .ref z), (1, .long va), (3, .long vb), (5, .long vc)]) hx hb dX12_feed_114 hl (k := 2) rfl (by decide) (by decide) rfl (fun ls hl => ?_)
    refine lv_goto (tgt := 8) hx hb dX12_feed_117 (by decide) ?_
    have hst : kst n (kby vc 16) = n := by rw [← hk]; exact (by first | exact kst_full hfull | exact kst_a c76 hlt | exact kst_b c83 c90 hlt | exact kst_lo c76 c83 | exact kst_hi c76 c90)
    have hup : kup f n (kby vc 16) = f := by rw [← hk]; exact (by first | exact kup_full hfull | exact kup_lo c76 c83 | exact kup_hi c76 c90)
    exact mf_22 z z2 z10 z11 z12 z13 z14 z15 z16 z17 z18 z19 z22 z23 z24 z25 z26 z27 z28 z29 z30 z31 z32 z33 z36 z37 z38 z39 z40 z41 z42 z43 z44 z45 z46 z47 z48 z55 z56 z59 z60 z61 n3 n4 n5 n6 n7 n8 n9 n20 n21 n34 n35 n49 n50 n51 n52 n53 n54 n57 n58 n62 n63 va vb vc n f (by omega) F G (by have h9 : kad vc 2 (kst n (kby vc 16)) = F := hF; rw [hst] at h9; exact h9) (by have h9 : kfa vc 2 (kst n (kby vc 16)) (kup f n (kby vc 16)) = G := hG; rw [hst, hup] at h9; exact h9) hC hr hlocks _ _ (kW.sub hw [0, 1] rfl rfl) _ (lv_sub hl [0, 3, 4, 5, 6] rfl)
  · have hlt : n < 1000 := by rcases Nat.lt_or_ge n 1000 with h9 | h9; exact h9; exact absurd (nI_le h9 (by omega)) c69
    refine lv_iload hx hb dX12_feed_72 (lv_at hl 0 rfl) ?_
    refine lv_bipush (v := 10) hx hb dX12_feed_74 (by decide) ?_
    refine lv_icmp_eq (tgt := 93) hx hb dX12_feed_76 (by decide) (fun c76 => ?_) (fun c76 => ?_)
    · refine lv_aload_n hx hb dX12_feed_93 rfl (lv_at hl 3 rfl) ?_
      refine fg_RX12_7 hC hw 0 rfl rfl dX12_feed_94 ?_
      refine lv_aload_n hx hb dX12_feed_97 rfl (lv_at hl 3 rfl) ?_
      refine fg_RX12_148 hC hw 0 rfl rfl dX12_feed_98 ?_
      refine lv_iload hx hb dX12_feed_101 (lv_at hl 0 rfl) ?_
      refine k_iast hC hw 1 rfl (vp_in_nI hlt (by decide)) dX12_feed_103 (fun H locs hw => ?_)
      obtain ⟨f_99, ef_99⟩ : ∃ g, g = upd f ((nI n) : Int32).toNatClampNeg x_98 := ⟨_, rfl⟩
      have hw : kW γ A [(z, .inr (11, [.int 0, .int (nI n), .ref z2, .int n3, .int n4, .int n5, .int n6, .long n7, .int n8, .int n9, .ref z10, .ref z11, .ref z12, .ref z13, .ref z14, .ref z15, .ref z16, .ref z17, .ref z18, .ref z19, .int n20, .int n21, .ref z22, .ref z23, .ref z24, .ref z25, .ref z26, .ref z27, .ref z28, .ref z29, .ref z30, .ref z31, .ref z32, .ref z33, .int n34, .long n35, .ref z36, .ref z37, .ref z38, .ref z39, .ref z40, .ref z41, .ref z42, .ref z43, .ref z44, .ref z45, .ref z46, .ref z47, .ref z48, .int n49, .int n50, .int n51, .int n52, .int n53, .int n54, .ref z55, .ref z56, .int n57, .int n58, .ref z59, .ref z60, .ref z61, .int n62, .long n63])), (z2, .inl (γ.2.1 0, 1000, .inl f_99))] s H locs := by rw [ef_99]; exact hw
      refine lv_aload_n hx hb dX12_feed_104 rfl (lv_at hl 3 rfl) ?_
      refine lv_dup hx hb dX12_feed_105 rfl ?_
      refine fg_RX12_148 hC hw 0 rfl rfl dX12_feed_106 ?_
      refine lv_iconst (v := 1) hx hb dX12_feed_109 (by decide) ?_
      refine lv_iadd hx hb dX12_feed_110 ?_
      refine lv_topi (fun x_100 ex_100 => ?_)
      obtain rfl : x_100 = (nI (n + 1)) := ex_100.trans (nI_1 n)
      refine fs_RX12_148 hC hw 0 rfl rfl rfl (Nat.le_of_ble_eq_true rfl) dX12_feed_111 (fun H locs hw => ?_)
      have hw : kW γ A [(z, .inr (11, [.int 0, .int (nI (n + 1)), .ref z2, .int n3, .int n4, .int n5, .int n6, .long n7, .int n8, .int n9, .ref z10, .ref z11, .ref z12, .ref z13, .ref z14, .ref z15, .ref z16, .ref z17, .ref z18, .ref z19, .int n20, .int n21, .ref z22, .ref z23, .ref z24, .ref z25, .ref z26, .ref z27, .ref z28, .ref z29, .ref z30, .ref z31, .ref z32, .ref z33, .int n34, .long n35, .ref z36, .ref z37, .ref z38, .ref z39, .ref z40, .ref z41, .ref z42, .ref z43, .ref z44, .ref z45, .ref z46, .ref z47, .ref z48, .int n49, .int n50, .int n51, .int n52, .int n53, .int n54, .ref z55, .ref z56, .int n57, .int n58, .ref z59, .ref z60, .ref z61, .int n62, .long n63])), (z2, .inl (γ.2.1 0, 1000, .inl f_99))] s H locs := hw
      refine lv_iinc (v := 22) (lv' := [(7, .int 22), (10, .int x_98), (8, .long vc), (0, .ref z), (1, .long va), (3, .long vb), (5, .long vc)]) hx hb dX12_feed_114 hl (k := 2) rfl (by decide) (by decide) rfl (fun ls hl => ?_)
      refine lv_goto (tgt := 8) hx hb dX12_feed_117 (by decide) ?_
      have hst : kst n (kby vc 16) = (n + 1) := by rw [← hk]; exact (by first | exact kst_full hfull | exact kst_a c76 hlt | exact kst_b c83 c90 hlt | exact kst_lo c76 c83 | exact kst_hi c76 c90)
      have hup : kup f n (kby vc 16) = f_99 := by rw [← hk, ef_99, nI_clamp (by omega)]; exact kup_y (by first | exact kok_a c76 | exact kok_b c83 c90) hlt
      exact mf_22 z z2 z10 z11 z12 z13 z14 z15 z16 z17 z18 z19 z22 z23 z24 z25 z26 z27 z28 z29 z30 z31 z32 z33 z36 z37 z38 z39 z40 z41 z42 z43 z44 z45 z46 z47 z48 z55 z56 z59 z60 z61 n3 n4 n5 n6 n7 n8 n9 n20 n21 n34 n35 n49 n50 n51 n52 n53 n54 n57 n58 n62 n63 va vb vc (n + 1) f_99 (by omega) F G (by have h9 : kad vc 2 (kst n (kby vc 16)) = F := hF; rw [hst] at h9; exact h9) (by have h9 : kfa vc 2 (kst n (kby vc 16)) (kup f n (kby vc 16)) = G := hG; rw [hst, hup] at h9; exact h9) hC hr hlocks _ _ (kW.sub hw [0, 1] rfl rfl) _ (lv_sub hl [0, 3, 4, 5, 6] rfl)
    · refine lv_iload hx hb dX12_feed_79 (lv_at hl 0 rfl) ?_
      refine lv_bipush (v := 32) hx hb dX12_feed_81 (by decide) ?_
      refine lv_icmp_lt (tgt := 114) hx hb dX12_feed_83 (by decide) (fun c83 => ?_) (fun c83 => ?_)
      · refine lv_iinc (v := 22) (lv' := [(7, .int 22), (10, .int x_98), (8, .long vc), (0, .ref z), (1, .long va), (3, .long vb), (5, .long vc)]) hx hb dX12_feed_114 hl (k := 2) rfl (by decide) (by decide) rfl (fun ls hl => ?_)
        refine lv_goto (tgt := 8) hx hb dX12_feed_117 (by decide) ?_
        have hst : kst n (kby vc 16) = n := by rw [← hk]; exact (by first | exact kst_full hfull | exact kst_a c76 hlt | exact kst_b c83 c90 hlt | exact kst_lo c76 c83 | exact kst_hi c76 c90)
        have hup : kup f n (kby vc 16) = f := by rw [← hk]; exact (by first | exact kup_full hfull | exact kup_lo c76 c83 | exact kup_hi c76 c90)
        exact mf_22 z z2 z10 z11 z12 z13 z14 z15 z16 z17 z18 z19 z22 z23 z24 z25 z26 z27 z28 z29 z30 z31 z32 z33 z36 z37 z38 z39 z40 z41 z42 z43 z44 z45 z46 z47 z48 z55 z56 z59 z60 z61 n3 n4 n5 n6 n7 n8 n9 n20 n21 n34 n35 n49 n50 n51 n52 n53 n54 n57 n58 n62 n63 va vb vc n f (by omega) F G (by have h9 : kad vc 2 (kst n (kby vc 16)) = F := hF; rw [hst] at h9; exact h9) (by have h9 : kfa vc 2 (kst n (kby vc 16)) (kup f n (kby vc 16)) = G := hG; rw [hst, hup] at h9; exact h9) hC hr hlocks _ _ (kW.sub hw [0, 1] rfl rfl) _ (lv_sub hl [0, 3, 4, 5, 6] rfl)
      · refine lv_iload hx hb dX12_feed_86 (lv_at hl 0 rfl) ?_
        refine lv_bipush (v := 126) hx hb dX12_feed_88 (by decide) ?_
        refine lv_icmp_gt (tgt := 114) hx hb dX12_feed_90 (by decide) (fun c90 => ?_) (fun c90 => ?_)
        · refine lv_iinc (v := 22) (lv' := [(7, .int 22), (10, .int x_98), (8, .long vc), (0, .ref z), (1, .long va), (3, .long vb), (5, .long vc)]) hx hb dX12_feed_114 hl (k := 2) rfl (by decide) (by decide) rfl (fun ls hl => ?_)
          refine lv_goto (tgt := 8) hx hb dX12_feed_117 (by decide) ?_
          have hst : kst n (kby vc 16) = n := by rw [← hk]; exact (by first | exact kst_full hfull | exact kst_a c76 hlt | exact kst_b c83 c90 hlt | exact kst_lo c76 c83 | exact kst_hi c76 c90)
          have hup : kup f n (kby vc 16) = f := by rw [← hk]; exact (by first | exact kup_full hfull | exact kup_lo c76 c83 | exact kup_hi c76 c90)
          exact mf_22 z z2 z10 z11 z12 z13 z14 z15 z16 z17 z18 z19 z22 z23 z24 z25 z26 z27 z28 z29 z30 z31 z32 z33 z36 z37 z38 z39 z40 z41 z42 z43 z44 z45 z46 z47 z48 z55 z56 z59 z60 z61 n3 n4 n5 n6 n7 n8 n9 n20 n21 n34 n35 n49 n50 n51 n52 n53 n54 n57 n58 n62 n63 va vb vc n f (by omega) F G (by have h9 : kad vc 2 (kst n (kby vc 16)) = F := hF; rw [hst] at h9; exact h9) (by have h9 : kfa vc 2 (kst n (kby vc 16)) (kup f n (kby vc 16)) = G := hG; rw [hst, hup] at h9; exact h9) hC hr hlocks _ _ (kW.sub hw [0, 1] rfl rfl) _ (lv_sub hl [0, 3, 4, 5, 6] rfl)
        · refine lv_aload_n hx hb dX12_feed_93 rfl (lv_at hl 3 rfl) ?_
          refine fg_RX12_7 hC hw 0 rfl rfl dX12_feed_94 ?_
          refine lv_aload_n hx hb dX12_feed_97 rfl (lv_at hl 3 rfl) ?_
          refine fg_RX12_148 hC hw 0 rfl rfl dX12_feed_98 ?_
          refine lv_iload hx hb dX12_feed_101 (lv_at hl 0 rfl) ?_
          refine k_iast hC hw 1 rfl (vp_in_nI hlt (by decide)) dX12_feed_103 (fun H locs hw => ?_)
          obtain ⟨f_101, ef_101⟩ : ∃ g, g = upd f ((nI n) : Int32).toNatClampNeg x_98 := ⟨_, rfl⟩
          have hw : kW γ A [(z, .inr (11, [.int 0, .int (nI n), .ref z2, .int n3, .int n4, .int n5, .int n6, .long n7, .int n8, .int n9, .ref z10, .ref z11, .ref z12, .ref z13, .ref z14, .ref z15, .ref z16, .ref z17, .ref z18, .ref z19, .int n20, .int n21, .ref z22, .ref z23, .ref z24, .ref z25, .ref z26, .ref z27, .ref z28, .ref z29, .ref z30, .ref z31, .ref z32, .ref z33, .int n34, .long n35, .ref z36, .ref z37, .ref z38, .ref z39, .ref z40, .ref z41, .ref z42, .ref z43, .ref z44, .ref z45, .ref z46, .ref z47, .ref z48, .int n49, .int n50, .int n51, .int n52, .int n53, .int n54, .ref z55, .ref z56, .int n57, .int n58, .ref z59, .ref z60, .ref z61, .int n62, .long n63])), (z2, .inl (γ.2.1 0, 1000, .inl f_101))] s H locs := by rw [ef_101]; exact hw
          refine lv_aload_n hx hb dX12_feed_104 rfl (lv_at hl 3 rfl) ?_
          refine lv_dup hx hb dX12_feed_105 rfl ?_
          refine fg_RX12_148 hC hw 0 rfl rfl dX12_feed_106 ?_
          refine lv_iconst (v := 1) hx hb dX12_feed_109 (by decide) ?_
          refine lv_iadd hx hb dX12_feed_110 ?_
          refine lv_topi (fun x_102 ex_102 => ?_)
          obtain rfl : x_102 = (nI (n + 1)) := ex_102.trans (nI_1 n)
          refine fs_RX12_148 hC hw 0 rfl rfl rfl (Nat.le_of_ble_eq_true rfl) dX12_feed_111 (fun H locs hw => ?_)
          have hw : kW γ A [(z, .inr (11, [.int 0, .int (nI (n + 1)), .ref z2, .int n3, .int n4, .int n5, .int n6, .long n7, .int n8, .int n9, .ref z10, .ref z11, .ref z12, .ref z13, .ref z14, .ref z15, .ref z16, .ref z17, .ref z18, .ref z19, .int n20, .int n21, .ref z22, .ref z23, .ref z24, .ref z25, .ref z26, .ref z27, .ref z28, .ref z29, .ref z30, .ref z31, .ref z32, .ref z33, .int n34, .long n35, .ref z36, .ref z37, .ref z38, .ref z39, .ref z40, .ref z41, .ref z42, .ref z43, .ref z44, .ref z45, .ref z46, .ref z47, .ref z48, .int n49, .int n50, .int n51, .int n52, .int n53, .int n54, .ref z55, .ref z56, .int n57, .int n58, .ref z59, .ref z60, .ref z61, .int n62, .long n63])), (z2, .inl (γ.2.1 0, 1000, .inl f_101))] s H locs := hw
          refine lv_iinc (v := 22) (lv' := [(7, .int 22), (10, .int x_98), (8, .long vc), (0, .ref z), (1, .long va), (3, .long vb), (5, .long vc)]) hx hb dX12_feed_114 hl (k := 2) rfl (by decide) (by decide) rfl (fun ls hl => ?_)
          refine lv_goto (tgt := 8) hx hb dX12_feed_117 (by decide) ?_
          have hst : kst n (kby vc 16) = (n + 1) := by rw [← hk]; exact (by first | exact kst_full hfull | exact kst_a c76 hlt | exact kst_b c83 c90 hlt | exact kst_lo c76 c83 | exact kst_hi c76 c90)
          have hup : kup f n (kby vc 16) = f_101 := by rw [← hk, ef_101, nI_clamp (by omega)]; exact kup_y (by first | exact kok_a c76 | exact kok_b c83 c90) hlt
          exact mf_22 z z2 z10 z11 z12 z13 z14 z15 z16 z17 z18 z19 z22 z23 z24 z25 z26 z27 z28 z29 z30 z31 z32 z33 z36 z37 z38 z39 z40 z41 z42 z43 z44 z45 z46 z47 z48 z55 z56 z59 z60 z61 n3 n4 n5 n6 n7 n8 n9 n20 n21 n34 n35 n49 n50 n51 n52 n53 n54 n57 n58 n62 n63 va vb vc (n + 1) f_101 (by omega) F G (by have h9 : kad vc 2 (kst n (kby vc 16)) = F := hF; rw [hst] at h9; exact h9) (by have h9 : kfa vc 2 (kst n (kby vc 16)) (kup f n (kby vc 16)) = G := hG; rw [hst, hup] at h9; exact h9) hC hr hlocks _ _ (kW.sub hw [0, 1] rfl rfl) _ (lv_sub hl [0, 3, 4, 5, 6] rfl)

set_option maxHeartbeats 4000000 in
set_option maxRecDepth 100000 in
theorem mf_20 {γ : kΓ} {l : Launch} {p : Program} {e : Env} {s : State} {m : MethodId} {below : List Frame} {meth : Method} {c : Code} {A : Nat → Prop} (z : Nat) (z2 : Nat) (z10 : Nat) (z11 : Nat) (z12 : Nat) (z13 : Nat) (z14 : Nat) (z15 : Nat) (z16 : Nat) (z17 : Nat) (z18 : Nat) (z19 : Nat) (z22 : Nat) (z23 : Nat) (z24 : Nat) (z25 : Nat) (z26 : Nat) (z27 : Nat) (z28 : Nat) (z29 : Nat) (z30 : Nat) (z31 : Nat) (z32 : Nat) (z33 : Nat) (z36 : Nat) (z37 : Nat) (z38 : Nat) (z39 : Nat) (z40 : Nat) (z41 : Nat) (z42 : Nat) (z43 : Nat) (z44 : Nat) (z45 : Nat) (z46 : Nat) (z47 : Nat) (z48 : Nat) (z55 : Nat) (z56 : Nat) (z59 : Nat) (z60 : Nat) (z61 : Nat) (n3 : Int32) (n4 : Int32) (n5 : Int32) (n6 : Int32) (n7 : Int64) (n8 : Int32) (n9 : Int32) (n20 : Int32) (n21 : Int32) (n34 : Int32) (n35 : Int64) (n49 : Int32) (n50 : Int32) (n51 : Int32) (n52 : Int32) (n53 : Int32) (n54 : Int32) (n57 : Int32) (n58 : Int32) (n62 : Int32) (n63 : Int64) (va : Int64) (vb : Int64) (vc : Int64) (n : Nat) (f : Nat → Int32) (hn : n ≤ 1000) (F : Nat) (G : Nat → Int32) (hF : kad vc 4 n = F) (hG : kfa vc 4 n f = G) (hC : kC γ p s m [.ref z, .long va, .long vb, .long vc].toArray c cX12_feed 11 RX12 A) (hr : meth.sig.returnType = (some .int)) (hlocks : meth.locks = false) (H : Heap) (locs : List Loc) (hw : kW γ A [(z, .inr (11, [.int 0, .int (nI n), .ref z2, .int n3, .int n4, .int n5, .int n6, .long n7, .int n8, .int n9, .ref z10, .ref z11, .ref z12, .ref z13, .ref z14, .ref z15, .ref z16, .ref z17, .ref z18, .ref z19, .int n20, .int n21, .ref z22, .ref z23, .ref z24, .ref z25, .ref z26, .ref z27, .ref z28, .ref z29, .ref z30, .ref z31, .ref z32, .ref z33, .int n34, .long n35, .ref z36, .ref z37, .ref z38, .ref z39, .ref z40, .ref z41, .ref z42, .ref z43, .ref z44, .ref z45, .ref z46, .ref z47, .ref z48, .int n49, .int n50, .int n51, .int n52, .int n53, .int n54, .ref z55, .ref z56, .int n57, .int n58, .ref z59, .ref z60, .ref z61, .int n62, .long n63])), (z2, .inl (γ.2.1 0, 1000, .inl f))] s H locs) (ls : Array Slot) (hl : lv_has ls 11 [(7, .int 20), (0, .ref z), (1, .long va), (3, .long vb), (5, .long vc)]) : W p l e ({ frames := 0, cells := 0, slots := 0, locals := 0 } : Room) s m [.ref z, .long va, .long vb, .long vc].toArray below meth c H locs 0 0 (MQ below (kQ γ A (fun r w1 => r = some (.int (nI F)) ∧ w1 = [(z, .inr (11, [.int 0, .int (nI F), .ref z2, .int n3, .int n4, .int n5, .int n6, .long n7, .int n8, .int n9, .ref z10, .ref z11, .ref z12, .ref z13, .ref z14, .ref z15, .ref z16, .ref z17, .ref z18, .ref z19, .int n20, .int n21, .ref z22, .ref z23, .ref z24, .ref z25, .ref z26, .ref z27, .ref z28, .ref z29, .ref z30, .ref z31, .ref z32, .ref z33, .int n34, .long n35, .ref z36, .ref z37, .ref z38, .ref z39, .ref z40, .ref z41, .ref z42, .ref z43, .ref z44, .ref z45, .ref z46, .ref z47, .ref z48, .int n49, .int n50, .int n51, .int n52, .int n53, .int n54, .ref z55, .ref z56, .int n57, .int n58, .ref z59, .ref z60, .ref z61, .int n62, .long n63])), (z2, .inl (γ.2.1 0, 1000, .inl G))])) [.ref z, .long va, .long vb, .long vc].toArray s 0 0 A) (F0 m 8 ls []) := by
  have hx := hC.1
  have hb := hC.2.1
  refine lv_iload hx hb dX12_feed_8 (lv_at hl 0 rfl) ?_
  refine lv_bipush (v := 24) hx hb dX12_feed_10 (by decide) ?_
  refine lv_icmp_ge (tgt := 120) hx hb dX12_feed_12 (by decide) (fun h => absurd h (by decide)) (fun _ => ?_)
  refine lv_iload hx hb dX12_feed_15 (lv_at hl 0 rfl) ?_
  refine lv_bipush (v := 8) hx hb dX12_feed_17 (by decide) ?_
  refine lv_icmp_ge (tgt := 26) hx hb dX12_feed_19 (by decide) (fun _ => ?_) (fun h => absurd (by decide) h)
  refine lv_iload hx hb dX12_feed_26 (lv_at hl 0 rfl) ?_
  refine lv_bipush (v := 16) hx hb dX12_feed_28 (by decide) ?_
  refine lv_icmp_ge (tgt := 37) hx hb dX12_feed_30 (by decide) (fun _ => ?_) (fun h => absurd (by decide) h)
  refine lv_lload hx hb dX12_feed_37 (lv_at hl 4 rfl) ?_
  refine lv_lstore (lv' := [(8, .long vc), (7, .int 20), (0, .ref z), (1, .long va), (3, .long vb), (5, .long vc)]) hx hb dX12_feed_39 hl (by decide) rfl (fun ls hl => ?_)
  refine lv_lload hx hb dX12_feed_41 (lv_at hl 0 rfl) ?_
  refine lv_bipush (v := 56) hx hb dX12_feed_43 (by decide) ?_
  refine lv_bipush (v := 8) hx hb dX12_feed_45 (by decide) ?_
  refine lv_iload hx hb dX12_feed_47 (lv_at hl 1 rfl) ?_
  refine lv_bipush (v := 7) hx hb dX12_feed_49 (by decide) ?_
  refine lv_iand hx hb dX12_feed_51 ?_
  refine lv_topi (fun x_103 ex_103 => ?_)
  obtain rfl : x_103 = 4 := ex_103.trans (by decide)
  refine lv_imul hx hb dX12_feed_52 ?_
  refine lv_topi (fun x_104 ex_104 => ?_)
  obtain rfl : x_104 = 32 := ex_104.trans (by decide)
  refine lv_isub hx hb dX12_feed_53 ?_
  refine lv_topi (fun x_105 ex_105 => ?_)
  obtain rfl : x_105 = 24 := ex_105.trans (by decide)
  refine lv_lushr hx hb dX12_feed_54 rfl ?_
  refine lv_topl (fun x_106 ex_106 => ?_)
  refine k_ldc2 hC gw_1389 dX12_feed_55 ?_
  refine lv_land hx hb dX12_feed_58 ?_
  refine lv_topl (fun x_107 ex_107 => ?_)
  refine lv_l2i hx hb dX12_feed_59 rfl ?_
  refine lv_topi (fun x_108 ex_108 => ?_)
  refine lv_istore (lv' := [(10, .int x_108), (8, .long vc), (7, .int 20), (0, .ref z), (1, .long va), (3, .long vb), (5, .long vc)]) hx hb dX12_feed_60 hl (by decide) rfl (fun ls hl => ?_)
  have hk : x_108 = kby vc 24 := by rw [ex_108, ex_107, k_land, ex_106]; rfl
  refine lv_aload_n hx hb dX12_feed_62 rfl (lv_at hl 3 rfl) ?_
  refine fg_RX12_148 hC hw 0 rfl rfl dX12_feed_63 ?_
  refine lv_sipush (v := 1000) hx hb dX12_feed_66 (by decide) ?_
  refine lv_icmp_ge (tgt := 114) hx hb dX12_feed_69 (by decide) (fun c69 => ?_) (fun c69 => ?_)
  · have hfull : ¬ n < 1000 := fun h9 => absurd c69 (nI_ge h9 (by decide))
    refine lv_iinc (v := 21) (lv' := [(7, .int 21), (10, .int x_108), (8, .long vc), (0, .ref z), (1, .long va), (3, .long vb), (5, .long vc)]) hx hb dX12_feed_114 hl (k := 2) rfl (by decide) (by decide) rfl (fun ls hl => ?_)
    refine lv_goto (tgt := 8) hx hb dX12_feed_117 (by decide) ?_
    have hst : kst n (kby vc 24) = n := by rw [← hk]; exact (by first | exact kst_full hfull | exact kst_a c76 hlt | exact kst_b c83 c90 hlt | exact kst_lo c76 c83 | exact kst_hi c76 c90)
    have hup : kup f n (kby vc 24) = f := by rw [← hk]; exact (by first | exact kup_full hfull | exact kup_lo c76 c83 | exact kup_hi c76 c90)
    exact mf_21 z z2 z10 z11 z12 z13 z14 z15 z16 z17 z18 z19 z22 z23 z24 z25 z26 z27 z28 z29 z30 z31 z32 z33 z36 z37 z38 z39 z40 z41 z42 z43 z44 z45 z46 z47 z48 z55 z56 z59 z60 z61 n3 n4 n5 n6 n7 n8 n9 n20 n21 n34 n35 n49 n50 n51 n52 n53 n54 n57 n58 n62 n63 va vb vc n f (by omega) F G (by have h9 : kad vc 3 (kst n (kby vc 24)) = F := hF; rw [hst] at h9; exact h9) (by have h9 : kfa vc 3 (kst n (kby vc 24)) (kup f n (kby vc 24)) = G := hG; rw [hst, hup] at h9; exact h9) hC hr hlocks _ _ (kW.sub hw [0, 1] rfl rfl) _ (lv_sub hl [0, 3, 4, 5, 6] rfl)
  · have hlt : n < 1000 := by rcases Nat.lt_or_ge n 1000 with h9 | h9; exact h9; exact absurd (nI_le h9 (by omega)) c69
    refine lv_iload hx hb dX12_feed_72 (lv_at hl 0 rfl) ?_
    refine lv_bipush (v := 10) hx hb dX12_feed_74 (by decide) ?_
    refine lv_icmp_eq (tgt := 93) hx hb dX12_feed_76 (by decide) (fun c76 => ?_) (fun c76 => ?_)
    · refine lv_aload_n hx hb dX12_feed_93 rfl (lv_at hl 3 rfl) ?_
      refine fg_RX12_7 hC hw 0 rfl rfl dX12_feed_94 ?_
      refine lv_aload_n hx hb dX12_feed_97 rfl (lv_at hl 3 rfl) ?_
      refine fg_RX12_148 hC hw 0 rfl rfl dX12_feed_98 ?_
      refine lv_iload hx hb dX12_feed_101 (lv_at hl 0 rfl) ?_
      refine k_iast hC hw 1 rfl (vp_in_nI hlt (by decide)) dX12_feed_103 (fun H locs hw => ?_)
      obtain ⟨f_109, ef_109⟩ : ∃ g, g = upd f ((nI n) : Int32).toNatClampNeg x_108 := ⟨_, rfl⟩
      have hw : kW γ A [(z, .inr (11, [.int 0, .int (nI n), .ref z2, .int n3, .int n4, .int n5, .int n6, .long n7, .int n8, .int n9, .ref z10, .ref z11, .ref z12, .ref z13, .ref z14, .ref z15, .ref z16, .ref z17, .ref z18, .ref z19, .int n20, .int n21, .ref z22, .ref z23, .ref z24, .ref z25, .ref z26, .ref z27, .ref z28, .ref z29, .ref z30, .ref z31, .ref z32, .ref z33, .int n34, .long n35, .ref z36, .ref z37, .ref z38, .ref z39, .ref z40, .ref z41, .ref z42, .ref z43, .ref z44, .ref z45, .ref z46, .ref z47, .ref z48, .int n49, .int n50, .int n51, .int n52, .int n53, .int n54, .ref z55, .ref z56, .int n57, .int n58, .ref z59, .ref z60, .ref z61, .int n62, .long n63])), (z2, .inl (γ.2.1 0, 1000, .inl f_109))] s H locs := by rw [ef_109]; exact hw
      refine lv_aload_n hx hb dX12_feed_104 rfl (lv_at hl 3 rfl) ?_
      refine lv_dup hx hb dX12_feed_105 rfl ?_
      refine fg_RX12_148 hC hw 0 rfl rfl dX12_feed_106 ?_
      refine lv_iconst (v := 1) hx hb dX12_feed_109 (by decide) ?_
      refine lv_iadd hx hb dX12_feed_110 ?_
      refine lv_topi (fun x_110 ex_110 => ?_)
      obtain rfl : x_110 = (nI (n + 1)) := ex_110.trans (nI_1 n)
      refine fs_RX12_148 hC hw 0 rfl rfl rfl (Nat.le_of_ble_eq_true rfl) dX12_feed_111 (fun H locs hw => ?_)
      have hw : kW γ A [(z, .inr (11, [.int 0, .int (nI (n + 1)), .ref z2, .int n3, .int n4, .int n5, .int n6, .long n7, .int n8, .int n9, .ref z10, .ref z11, .ref z12, .ref z13, .ref z14, .ref z15, .ref z16, .ref z17, .ref z18, .ref z19, .int n20, .int n21, .ref z22, .ref z23, .ref z24, .ref z25, .ref z26, .ref z27, .ref z28, .ref z29, .ref z30, .ref z31, .ref z32, .ref z33, .int n34, .long n35, .ref z36, .ref z37, .ref z38, .ref z39, .ref z40, .ref z41, .ref z42, .ref z43, .ref z44, .ref z45, .ref z46, .ref z47, .ref z48, .int n49, .int n50, .int n51, .int n52, .int n53, .int n54, .ref z55, .ref z56, .int n57, .int n58, .ref z59, .ref z60, .ref z61, .int n62, .long n63])), (z2, .inl (γ.2.1 0, 1000, .inl f_109))] s H locs := hw
      refine lv_iinc (v := 21) (lv' := [(7, .int 21), (10, .int x_108), (8, .long vc), (0, .ref z), (1, .long va), (3, .long vb), (5, .long vc)]) hx hb dX12_feed_114 hl (k := 2) rfl (by decide) (by decide) rfl (fun ls hl => ?_)
      refine lv_goto (tgt := 8) hx hb dX12_feed_117 (by decide) ?_
      have hst : kst n (kby vc 24) = (n + 1) := by rw [← hk]; exact (by first | exact kst_full hfull | exact kst_a c76 hlt | exact kst_b c83 c90 hlt | exact kst_lo c76 c83 | exact kst_hi c76 c90)
      have hup : kup f n (kby vc 24) = f_109 := by rw [← hk, ef_109, nI_clamp (by omega)]; exact kup_y (by first | exact kok_a c76 | exact kok_b c83 c90) hlt
      exact mf_21 z z2 z10 z11 z12 z13 z14 z15 z16 z17 z18 z19 z22 z23 z24 z25 z26 z27 z28 z29 z30 z31 z32 z33 z36 z37 z38 z39 z40 z41 z42 z43 z44 z45 z46 z47 z48 z55 z56 z59 z60 z61 n3 n4 n5 n6 n7 n8 n9 n20 n21 n34 n35 n49 n50 n51 n52 n53 n54 n57 n58 n62 n63 va vb vc (n + 1) f_109 (by omega) F G (by have h9 : kad vc 3 (kst n (kby vc 24)) = F := hF; rw [hst] at h9; exact h9) (by have h9 : kfa vc 3 (kst n (kby vc 24)) (kup f n (kby vc 24)) = G := hG; rw [hst, hup] at h9; exact h9) hC hr hlocks _ _ (kW.sub hw [0, 1] rfl rfl) _ (lv_sub hl [0, 3, 4, 5, 6] rfl)
    · refine lv_iload hx hb dX12_feed_79 (lv_at hl 0 rfl) ?_
      refine lv_bipush (v := 32) hx hb dX12_feed_81 (by decide) ?_
      refine lv_icmp_lt (tgt := 114) hx hb dX12_feed_83 (by decide) (fun c83 => ?_) (fun c83 => ?_)
      · refine lv_iinc (v := 21) (lv' := [(7, .int 21), (10, .int x_108), (8, .long vc), (0, .ref z), (1, .long va), (3, .long vb), (5, .long vc)]) hx hb dX12_feed_114 hl (k := 2) rfl (by decide) (by decide) rfl (fun ls hl => ?_)
        refine lv_goto (tgt := 8) hx hb dX12_feed_117 (by decide) ?_
        have hst : kst n (kby vc 24) = n := by rw [← hk]; exact (by first | exact kst_full hfull | exact kst_a c76 hlt | exact kst_b c83 c90 hlt | exact kst_lo c76 c83 | exact kst_hi c76 c90)
        have hup : kup f n (kby vc 24) = f := by rw [← hk]; exact (by first | exact kup_full hfull | exact kup_lo c76 c83 | exact kup_hi c76 c90)
        exact mf_21 z z2 z10 z11 z12 z13 z14 z15 z16 z17 z18 z19 z22 z23 z24 z25 z26 z27 z28 z29 z30 z31 z32 z33 z36 z37 z38 z39 z40 z41 z42 z43 z44 z45 z46 z47 z48 z55 z56 z59 z60 z61 n3 n4 n5 n6 n7 n8 n9 n20 n21 n34 n35 n49 n50 n51 n52 n53 n54 n57 n58 n62 n63 va vb vc n f (by omega) F G (by have h9 : kad vc 3 (kst n (kby vc 24)) = F := hF; rw [hst] at h9; exact h9) (by have h9 : kfa vc 3 (kst n (kby vc 24)) (kup f n (kby vc 24)) = G := hG; rw [hst, hup] at h9; exact h9) hC hr hlocks _ _ (kW.sub hw [0, 1] rfl rfl) _ (lv_sub hl [0, 3, 4, 5, 6] rfl)
      · refine lv_iload hx hb dX12_feed_86 (lv_at hl 0 rfl) ?_
        refine lv_bipush (v := 126) hx hb dX12_feed_88 (by decide) ?_
        refine lv_icmp_gt (tgt := 114) hx hb dX12_feed_90 (by decide) (fun c90 => ?_) (fun c90 => ?_)
        · refine lv_iinc (v := 21) (lv' := [(7, .int 21), (10, .int x_108), (8, .long vc), (0, .ref z), (1, .long va), (3, .long vb), (5, .long vc)]) hx hb dX12_feed_114 hl (k := 2) rfl (by decide) (by decide) rfl (fun ls hl => ?_)
          refine lv_goto (tgt := 8) hx hb dX12_feed_117 (by decide) ?_
          have hst : kst n (kby vc 24) = n := by rw [← hk]; exact (by first | exact kst_full hfull | exact kst_a c76 hlt | exact kst_b c83 c90 hlt | exact kst_lo c76 c83 | exact kst_hi c76 c90)
          have hup : kup f n (kby vc 24) = f := by rw [← hk]; exact (by first | exact kup_full hfull | exact kup_lo c76 c83 | exact kup_hi c76 c90)
          exact mf_21 z z2 z10 z11 z12 z13 z14 z15 z16 z17 z18 z19 z22 z23 z24 z25 z26 z27 z28 z29 z30 z31 z32 z33 z36 z37 z38 z39 z40 z41 z42 z43 z44 z45 z46 z47 z48 z55 z56 z59 z60 z61 n3 n4 n5 n6 n7 n8 n9 n20 n21 n34 n35 n49 n50 n51 n52 n53 n54 n57 n58 n62 n63 va vb vc n f (by omega) F G (by have h9 : kad vc 3 (kst n (kby vc 24)) = F := hF; rw [hst] at h9; exact h9) (by have h9 : kfa vc 3 (kst n (kby vc 24)) (kup f n (kby vc 24)) = G := hG; rw [hst, hup] at h9; exact h9) hC hr hlocks _ _ (kW.sub hw [0, 1] rfl rfl) _ (lv_sub hl [0, 3, 4, 5, 6] rfl)
        · refine lv_aload_n hx hb dX12_feed_93 rfl (lv_at hl 3 rfl) ?_
          refine fg_RX12_7 hC hw 0 rfl rfl dX12_feed_94 ?_
          refine lv_aload_n hx hb dX12_feed_97 rfl (lv_at hl 3 rfl) ?_
          refine fg_RX12_148 hC hw 0 rfl rfl dX12_feed_98 ?_
          refine lv_iload hx hb dX12_feed_101 (lv_at hl 0 rfl) ?_
          refine k_iast hC hw 1 rfl (vp_in_nI hlt (by decide)) dX12_feed_103 (fun H locs hw => ?_)
          obtain ⟨f_111, ef_111⟩ : ∃ g, g = upd f ((nI n) : Int32).toNatClampNeg x_108 := ⟨_, rfl⟩
          have hw : kW γ A [(z, .inr (11, [.int 0, .int (nI n), .ref z2, .int n3, .int n4, .int n5, .int n6, .long n7, .int n8, .int n9, .ref z10, .ref z11, .ref z12, .ref z13, .ref z14, .ref z15, .ref z16, .ref z17, .ref z18, .ref z19, .int n20, .int n21, .ref z22, .ref z23, .ref z24, .ref z25, .ref z26, .ref z27, .ref z28, .ref z29, .ref z30, .ref z31, .ref z32, .ref z33, .int n34, .long n35, .ref z36, .ref z37, .ref z38, .ref z39, .ref z40, .ref z41, .ref z42, .ref z43, .ref z44, .ref z45, .ref z46, .ref z47, .ref z48, .int n49, .int n50, .int n51, .int n52, .int n53, .int n54, .ref z55, .ref z56, .int n57, .int n58, .ref z59, .ref z60, .ref z61, .int n62, .long n63])), (z2, .inl (γ.2.1 0, 1000, .inl f_111))] s H locs := by rw [ef_111]; exact hw
          refine lv_aload_n hx hb dX12_feed_104 rfl (lv_at hl 3 rfl) ?_
          refine lv_dup hx hb dX12_feed_105 rfl ?_
          refine fg_RX12_148 hC hw 0 rfl rfl dX12_feed_106 ?_
          refine lv_iconst (v := 1) hx hb dX12_feed_109 (by decide) ?_
          refine lv_iadd hx hb dX12_feed_110 ?_
          refine lv_topi (fun x_112 ex_112 => ?_)
          obtain rfl : x_112 = (nI (n + 1)) := ex_112.trans (nI_1 n)
          refine fs_RX12_148 hC hw 0 rfl rfl rfl (Nat.le_of_ble_eq_true rfl) dX12_feed_111 (fun H locs hw => ?_)
          have hw : kW γ A [(z, .inr (11, [.int 0, .int (nI (n + 1)), .ref z2, .int n3, .int n4, .int n5, .int n6, .long n7, .int n8, .int n9, .ref z10, .ref z11, .ref z12, .ref z13, .ref z14, .ref z15, .ref z16, .ref z17, .ref z18, .ref z19, .int n20, .int n21, .ref z22, .ref z23, .ref z24, .ref z25, .ref z26, .ref z27, .ref z28, .ref z29, .ref z30, .ref z31, .ref z32, .ref z33, .int n34, .long n35, .ref z36, .ref z37, .ref z38, .ref z39, .ref z40, .ref z41, .ref z42, .ref z43, .ref z44, .ref z45, .ref z46, .ref z47, .ref z48, .int n49, .int n50, .int n51, .int n52, .int n53, .int n54, .ref z55, .ref z56, .int n57, .int n58, .ref z59, .ref z60, .ref z61, .int n62, .long n63])), (z2, .inl (γ.2.1 0, 1000, .inl f_111))] s H locs := hw
          refine lv_iinc (v := 21) (lv' := [(7, .int 21), (10, .int x_108), (8, .long vc), (0, .ref z), (1, .long va), (3, .long vb), (5, .long vc)]) hx hb dX12_feed_114 hl (k := 2) rfl (by decide) (by decide) rfl (fun ls hl => ?_)
          refine lv_goto (tgt := 8) hx hb dX12_feed_117 (by decide) ?_
          have hst : kst n (kby vc 24) = (n + 1) := by rw [← hk]; exact (by first | exact kst_full hfull | exact kst_a c76 hlt | exact kst_b c83 c90 hlt | exact kst_lo c76 c83 | exact kst_hi c76 c90)
          have hup : kup f n (kby vc 24) = f_111 := by rw [← hk, ef_111, nI_clamp (by omega)]; exact kup_y (by first | exact kok_a c76 | exact kok_b c83 c90) hlt
          exact mf_21 z z2 z10 z11 z12 z13 z14 z15 z16 z17 z18 z19 z22 z23 z24 z25 z26 z27 z28 z29 z30 z31 z32 z33 z36 z37 z38 z39 z40 z41 z42 z43 z44 z45 z46 z47 z48 z55 z56 z59 z60 z61 n3 n4 n5 n6 n7 n8 n9 n20 n21 n34 n35 n49 n50 n51 n52 n53 n54 n57 n58 n62 n63 va vb vc (n + 1) f_111 (by omega) F G (by have h9 : kad vc 3 (kst n (kby vc 24)) = F := hF; rw [hst] at h9; exact h9) (by have h9 : kfa vc 3 (kst n (kby vc 24)) (kup f n (kby vc 24)) = G := hG; rw [hst, hup] at h9; exact h9) hC hr hlocks _ _ (kW.sub hw [0, 1] rfl rfl) _ (lv_sub hl [0, 3, 4, 5, 6] rfl)

set_option maxHeartbeats 4000000 in
set_option maxRecDepth 100000 in
theorem mf_19 {γ : kΓ} {l : Launch} {p : Program} {e : Env} {s : State} {m : MethodId} {below : List Frame} {meth : Method} {c : Code} {A : Nat → Prop} (z : Nat) (z2 : Nat) (z10 : Nat) (z11 : Nat) (z12 : Nat) (z13 : Nat) (z14 : Nat) (z15 : Nat) (z16 : Nat) (z17 : Nat) (z18 : Nat) (z19 : Nat) (z22 : Nat) (z23 : Nat) (z24 : Nat) (z25 : Nat) (z26 : Nat) (z27 : Nat) (z28 : Nat) (z29 : Nat) (z30 : Nat) (z31 : Nat) (z32 : Nat) (z33 : Nat) (z36 : Nat) (z37 : Nat) (z38 : Nat) (z39 : Nat) (z40 : Nat) (z41 : Nat) (z42 : Nat) (z43 : Nat) (z44 : Nat) (z45 : Nat) (z46 : Nat) (z47 : Nat) (z48 : Nat) (z55 : Nat) (z56 : Nat) (z59 : Nat) (z60 : Nat) (z61 : Nat) (n3 : Int32) (n4 : Int32) (n5 : Int32) (n6 : Int32) (n7 : Int64) (n8 : Int32) (n9 : Int32) (n20 : Int32) (n21 : Int32) (n34 : Int32) (n35 : Int64) (n49 : Int32) (n50 : Int32) (n51 : Int32) (n52 : Int32) (n53 : Int32) (n54 : Int32) (n57 : Int32) (n58 : Int32) (n62 : Int32) (n63 : Int64) (va : Int64) (vb : Int64) (vc : Int64) (n : Nat) (f : Nat → Int32) (hn : n ≤ 1000) (F : Nat) (G : Nat → Int32) (hF : kad vc 5 n = F) (hG : kfa vc 5 n f = G) (hC : kC γ p s m [.ref z, .long va, .long vb, .long vc].toArray c cX12_feed 11 RX12 A) (hr : meth.sig.returnType = (some .int)) (hlocks : meth.locks = false) (H : Heap) (locs : List Loc) (hw : kW γ A [(z, .inr (11, [.int 0, .int (nI n), .ref z2, .int n3, .int n4, .int n5, .int n6, .long n7, .int n8, .int n9, .ref z10, .ref z11, .ref z12, .ref z13, .ref z14, .ref z15, .ref z16, .ref z17, .ref z18, .ref z19, .int n20, .int n21, .ref z22, .ref z23, .ref z24, .ref z25, .ref z26, .ref z27, .ref z28, .ref z29, .ref z30, .ref z31, .ref z32, .ref z33, .int n34, .long n35, .ref z36, .ref z37, .ref z38, .ref z39, .ref z40, .ref z41, .ref z42, .ref z43, .ref z44, .ref z45, .ref z46, .ref z47, .ref z48, .int n49, .int n50, .int n51, .int n52, .int n53, .int n54, .ref z55, .ref z56, .int n57, .int n58, .ref z59, .ref z60, .ref z61, .int n62, .long n63])), (z2, .inl (γ.2.1 0, 1000, .inl f))] s H locs) (ls : Array Slot) (hl : lv_has ls 11 [(7, .int 19), (0, .ref z), (1, .long va), (3, .long vb), (5, .long vc)]) : W p l e ({ frames := 0, cells := 0, slots := 0, locals := 0 } : Room) s m [.ref z, .long va, .long vb, .long vc].toArray below meth c H locs 0 0 (MQ below (kQ γ A (fun r w1 => r = some (.int (nI F)) ∧ w1 = [(z, .inr (11, [.int 0, .int (nI F), .ref z2, .int n3, .int n4, .int n5, .int n6, .long n7, .int n8, .int n9, .ref z10, .ref z11, .ref z12, .ref z13, .ref z14, .ref z15, .ref z16, .ref z17, .ref z18, .ref z19, .int n20, .int n21, .ref z22, .ref z23, .ref z24, .ref z25, .ref z26, .ref z27, .ref z28, .ref z29, .ref z30, .ref z31, .ref z32, .ref z33, .int n34, .long n35, .ref z36, .ref z37, .ref z38, .ref z39, .ref z40, .ref z41, .ref z42, .ref z43, .ref z44, .ref z45, .ref z46, .ref z47, .ref z48, .int n49, .int n50, .int n51, .int n52, .int n53, .int n54, .ref z55, .ref z56, .int n57, .int n58, .ref z59, .ref z60, .ref z61, .int n62, .long n63])), (z2, .inl (γ.2.1 0, 1000, .inl G))])) [.ref z, .long va, .long vb, .long vc].toArray s 0 0 A) (F0 m 8 ls []) := by
  have hx := hC.1
  have hb := hC.2.1
  refine lv_iload hx hb dX12_feed_8 (lv_at hl 0 rfl) ?_
  refine lv_bipush (v := 24) hx hb dX12_feed_10 (by decide) ?_
  refine lv_icmp_ge (tgt := 120) hx hb dX12_feed_12 (by decide) (fun h => absurd h (by decide)) (fun _ => ?_)
  refine lv_iload hx hb dX12_feed_15 (lv_at hl 0 rfl) ?_
  refine lv_bipush (v := 8) hx hb dX12_feed_17 (by decide) ?_
  refine lv_icmp_ge (tgt := 26) hx hb dX12_feed_19 (by decide) (fun _ => ?_) (fun h => absurd (by decide) h)
  refine lv_iload hx hb dX12_feed_26 (lv_at hl 0 rfl) ?_
  refine lv_bipush (v := 16) hx hb dX12_feed_28 (by decide) ?_
  refine lv_icmp_ge (tgt := 37) hx hb dX12_feed_30 (by decide) (fun _ => ?_) (fun h => absurd (by decide) h)
  refine lv_lload hx hb dX12_feed_37 (lv_at hl 4 rfl) ?_
  refine lv_lstore (lv' := [(8, .long vc), (7, .int 19), (0, .ref z), (1, .long va), (3, .long vb), (5, .long vc)]) hx hb dX12_feed_39 hl (by decide) rfl (fun ls hl => ?_)
  refine lv_lload hx hb dX12_feed_41 (lv_at hl 0 rfl) ?_
  refine lv_bipush (v := 56) hx hb dX12_feed_43 (by decide) ?_
  refine lv_bipush (v := 8) hx hb dX12_feed_45 (by decide) ?_
  refine lv_iload hx hb dX12_feed_47 (lv_at hl 1 rfl) ?_
  refine lv_bipush (v := 7) hx hb dX12_feed_49 (by decide) ?_
  refine lv_iand hx hb dX12_feed_51 ?_
  refine lv_topi (fun x_113 ex_113 => ?_)
  obtain rfl : x_113 = 3 := ex_113.trans (by decide)
  refine lv_imul hx hb dX12_feed_52 ?_
  refine lv_topi (fun x_114 ex_114 => ?_)
  obtain rfl : x_114 = 24 := ex_114.trans (by decide)
  refine lv_isub hx hb dX12_feed_53 ?_
  refine lv_topi (fun x_115 ex_115 => ?_)
  obtain rfl : x_115 = 32 := ex_115.trans (by decide)
  refine lv_lushr hx hb dX12_feed_54 rfl ?_
  refine lv_topl (fun x_116 ex_116 => ?_)
  refine k_ldc2 hC gw_1389 dX12_feed_55 ?_
  refine lv_land hx hb dX12_feed_58 ?_
  refine lv_topl (fun x_117 ex_117 => ?_)
  refine lv_l2i hx hb dX12_feed_59 rfl ?_
  refine lv_topi (fun x_118 ex_118 => ?_)
  refine lv_istore (lv' := [(10, .int x_118), (8, .long vc), (7, .int 19), (0, .ref z), (1, .long va), (3, .long vb), (5, .long vc)]) hx hb dX12_feed_60 hl (by decide) rfl (fun ls hl => ?_)
  have hk : x_118 = kby vc 32 := by rw [ex_118, ex_117, k_land, ex_116]; rfl
  refine lv_aload_n hx hb dX12_feed_62 rfl (lv_at hl 3 rfl) ?_
  refine fg_RX12_148 hC hw 0 rfl rfl dX12_feed_63 ?_
  refine lv_sipush (v := 1000) hx hb dX12_feed_66 (by decide) ?_
  refine lv_icmp_ge (tgt := 114) hx hb dX12_feed_69 (by decide) (fun c69 => ?_) (fun c69 => ?_)
  · have hfull : ¬ n < 1000 := fun h9 => absurd c69 (nI_ge h9 (by decide))
    refine lv_iinc (v := 20) (lv' := [(7, .int 20), (10, .int x_118), (8, .long vc), (0, .ref z), (1, .long va), (3, .long vb), (5, .long vc)]) hx hb dX12_feed_114 hl (k := 2) rfl (by decide) (by decide) rfl (fun ls hl => ?_)
    refine lv_goto (tgt := 8) hx hb dX12_feed_117 (by decide) ?_
    have hst : kst n (kby vc 32) = n := by rw [← hk]; exact (by first | exact kst_full hfull | exact kst_a c76 hlt | exact kst_b c83 c90 hlt | exact kst_lo c76 c83 | exact kst_hi c76 c90)
    have hup : kup f n (kby vc 32) = f := by rw [← hk]; exact (by first | exact kup_full hfull | exact kup_lo c76 c83 | exact kup_hi c76 c90)
    exact mf_20 z z2 z10 z11 z12 z13 z14 z15 z16 z17 z18 z19 z22 z23 z24 z25 z26 z27 z28 z29 z30 z31 z32 z33 z36 z37 z38 z39 z40 z41 z42 z43 z44 z45 z46 z47 z48 z55 z56 z59 z60 z61 n3 n4 n5 n6 n7 n8 n9 n20 n21 n34 n35 n49 n50 n51 n52 n53 n54 n57 n58 n62 n63 va vb vc n f (by omega) F G (by have h9 : kad vc 4 (kst n (kby vc 32)) = F := hF; rw [hst] at h9; exact h9) (by have h9 : kfa vc 4 (kst n (kby vc 32)) (kup f n (kby vc 32)) = G := hG; rw [hst, hup] at h9; exact h9) hC hr hlocks _ _ (kW.sub hw [0, 1] rfl rfl) _ (lv_sub hl [0, 3, 4, 5, 6] rfl)
  · have hlt : n < 1000 := by rcases Nat.lt_or_ge n 1000 with h9 | h9; exact h9; exact absurd (nI_le h9 (by omega)) c69
    refine lv_iload hx hb dX12_feed_72 (lv_at hl 0 rfl) ?_
    refine lv_bipush (v := 10) hx hb dX12_feed_74 (by decide) ?_
    refine lv_icmp_eq (tgt := 93) hx hb dX12_feed_76 (by decide) (fun c76 => ?_) (fun c76 => ?_)
    · refine lv_aload_n hx hb dX12_feed_93 rfl (lv_at hl 3 rfl) ?_
      refine fg_RX12_7 hC hw 0 rfl rfl dX12_feed_94 ?_
      refine lv_aload_n hx hb dX12_feed_97 rfl (lv_at hl 3 rfl) ?_
      refine fg_RX12_148 hC hw 0 rfl rfl dX12_feed_98 ?_
      refine lv_iload hx hb dX12_feed_101 (lv_at hl 0 rfl) ?_
      refine k_iast hC hw 1 rfl (vp_in_nI hlt (by decide)) dX12_feed_103 (fun H locs hw => ?_)
      obtain ⟨f_119, ef_119⟩ : ∃ g, g = upd f ((nI n) : Int32).toNatClampNeg x_118 := ⟨_, rfl⟩
      have hw : kW γ A [(z, .inr (11, [.int 0, .int (nI n), .ref z2, .int n3, .int n4, .int n5, .int n6, .long n7, .int n8, .int n9, .ref z10, .ref z11, .ref z12, .ref z13, .ref z14, .ref z15, .ref z16, .ref z17, .ref z18, .ref z19, .int n20, .int n21, .ref z22, .ref z23, .ref z24, .ref z25, .ref z26, .ref z27, .ref z28, .ref z29, .ref z30, .ref z31, .ref z32, .ref z33, .int n34, .long n35, .ref z36, .ref z37, .ref z38, .ref z39, .ref z40, .ref z41, .ref z42, .ref z43, .ref z44, .ref z45, .ref z46, .ref z47, .ref z48, .int n49, .int n50, .int n51, .int n52, .int n53, .int n54, .ref z55, .ref z56, .int n57, .int n58, .ref z59, .ref z60, .ref z61, .int n62, .long n63])), (z2, .inl (γ.2.1 0, 1000, .inl f_119))] s H locs := by rw [ef_119]; exact hw
      refine lv_aload_n hx hb dX12_feed_104 rfl (lv_at hl 3 rfl) ?_
      refine lv_dup hx hb dX12_feed_105 rfl ?_
      refine fg_RX12_148 hC hw 0 rfl rfl dX12_feed_106 ?_
      refine lv_iconst (v := 1) hx hb dX12_feed_109 (by decide) ?_
      refine lv_iadd hx hb dX12_feed_110 ?_
      refine lv_topi (fun x_120 ex_120 => ?_)
      obtain rfl : x_120 = (nI (n + 1)) := ex_120.trans (nI_1 n)
      refine fs_RX12_148 hC hw 0 rfl rfl rfl (Nat.le_of_ble_eq_true rfl) dX12_feed_111 (fun H locs hw => ?_)
      have hw : kW γ A [(z, .inr (11, [.int 0, .int (nI (n + 1)), .ref z2, .int n3, .int n4, .int n5, .int n6, .long n7, .int n8, .int n9, .ref z10, .ref z11, .ref z12, .ref z13, .ref z14, .ref z15, .ref z16, .ref z17, .ref z18, .ref z19, .int n20, .int n21, .ref z22, .ref z23, .ref z24, .ref z25, .ref z26, .ref z27, .ref z28, .ref z29, .ref z30, .ref z31, .ref z32, .ref z33, .int n34, .long n35, .ref z36, .ref z37, .ref z38, .ref z39, .ref z40, .ref z41, .ref z42, .ref z43, .ref z44, .ref z45, .ref z46, .ref z47, .ref z48, .int n49, .int n50, .int n51, .int n52, .int n53, .int n54, .ref z55, .ref z56, .int n57, .int n58, .ref z59, .ref z60, .ref z61, .int n62, .long n63])), (z2, .inl (γ.2.1 0, 1000, .inl f_119))] s H locs := hw
      refine lv_iinc (v := 20) (lv' := [(7, .int 20), (10, .int x_118), (8, .long vc), (0, .ref z), (1, .long va), (3, .long vb), (5, .long vc)]) hx hb dX12_feed_114 hl (k := 2) rfl (by decide) (by decide) rfl (fun ls hl => ?_)
      refine lv_goto (tgt := 8) hx hb dX12_feed_117 (by decide) ?_
      have hst : kst n (kby vc 32) = (n + 1) := by rw [← hk]; exact (by first | exact kst_full hfull | exact kst_a c76 hlt | exact kst_b c83 c90 hlt | exact kst_lo c76 c83 | exact kst_hi c76 c90)
      have hup : kup f n (kby vc 32) = f_119 := by rw [← hk, ef_119, nI_clamp (by omega)]; exact kup_y (by first | exact kok_a c76 | exact kok_b c83 c90) hlt
      exact mf_20 z z2 z10 z11 z12 z13 z14 z15 z16 z17 z18 z19 z22 z23 z24 z25 z26 z27 z28 z29 z30 z31 z32 z33 z36 z37 z38 z39 z40 z41 z42 z43 z44 z45 z46 z47 z48 z55 z56 z59 z60 z61 n3 n4 n5 n6 n7 n8 n9 n20 n21 n34 n35 n49 n50 n51 n52 n53 n54 n57 n58 n62 n63 va vb vc (n + 1) f_119 (by omega) F G (by have h9 : kad vc 4 (kst n (kby vc 32)) = F := hF; rw [hst] at h9; exact h9) (by have h9 : kfa vc 4 (kst n (kby vc 32)) (kup f n (kby vc 32)) = G := hG; rw [hst, hup] at h9; exact h9) hC hr hlocks _ _ (kW.sub hw [0, 1] rfl rfl) _ (lv_sub hl [0, 3, 4, 5, 6] rfl)
    · refine lv_iload hx hb dX12_feed_79 (lv_at hl 0 rfl) ?_
      refine lv_bipush (v := 32) hx hb dX12_feed_81 (by decide) ?_
      refine lv_icmp_lt (tgt := 114) hx hb dX12_feed_83 (by decide) (fun c83 => ?_) (fun c83 => ?_)
      · refine lv_iinc (v := 20) (lv' := [(7, .int 20), (10, .int x_118), (8, .long vc), (0, .ref z), (1, .long va), (3, .long vb), (5, .long vc)]) hx hb dX12_feed_114 hl (k := 2) rfl (by decide) (by decide) rfl (fun ls hl => ?_)
        refine lv_goto (tgt := 8) hx hb dX12_feed_117 (by decide) ?_
        have hst : kst n (kby vc 32) = n := by rw [← hk]; exact (by first | exact kst_full hfull | exact kst_a c76 hlt | exact kst_b c83 c90 hlt | exact kst_lo c76 c83 | exact kst_hi c76 c90)
        have hup : kup f n (kby vc 32) = f := by rw [← hk]; exact (by first | exact kup_full hfull | exact kup_lo c76 c83 | exact kup_hi c76 c90)
        exact mf_20 z z2 z10 z11 z12 z13 z14 z15 z16 z17 z18 z19 z22 z23 z24 z25 z26 z27 z28 z29 z30 z31 z32 z33 z36 z37 z38 z39 z40 z41 z42 z43 z44 z45 z46 z47 z48 z55 z56 z59 z60 z61 n3 n4 n5 n6 n7 n8 n9 n20 n21 n34 n35 n49 n50 n51 n52 n53 n54 n57 n58 n62 n63 va vb vc n f (by omega) F G (by have h9 : kad vc 4 (kst n (kby vc 32)) = F := hF; rw [hst] at h9; exact h9) (by have h9 : kfa vc 4 (kst n (kby vc 32)) (kup f n (kby vc 32)) = G := hG; rw [hst, hup] at h9; exact h9) hC hr hlocks _ _ (kW.sub hw [0, 1] rfl rfl) _ (lv_sub hl [0, 3, 4, 5, 6] rfl)
      · refine lv_iload hx hb dX12_feed_86 (lv_at hl 0 rfl) ?_
        refine lv_bipush (v := 126) hx hb dX12_feed_88 (by decide) ?_
        refine lv_icmp_gt (tgt := 114) hx hb dX12_feed_90 (by decide) (fun c90 => ?_) (fun c90 => ?_)
        · refine lv_iinc (v := 20) (lv' := [(7, .int 20), (10, .int x_118), (8, .long vc), (0, .ref z), (1, .long va), (3, .long vb), (5, .long vc)]) hx hb dX12_feed_114 hl (k := 2) rfl (by decide) (by decide) rfl (fun ls hl => ?_)
          refine lv_goto (tgt := 8) hx hb dX12_feed_117 (by decide) ?_
          have hst : kst n (kby vc 32) = n := by rw [← hk]; exact (by first | exact kst_full hfull | exact kst_a c76 hlt | exact kst_b c83 c90 hlt | exact kst_lo c76 c83 | exact kst_hi c76 c90)
          have hup : kup f n (kby vc 32) = f := by rw [← hk]; exact (by first | exact kup_full hfull | exact kup_lo c76 c83 | exact kup_hi c76 c90)
          exact mf_20 z z2 z10 z11 z12 z13 z14 z15 z16 z17 z18 z19 z22 z23 z24 z25 z26 z27 z28 z29 z30 z31 z32 z33 z36 z37 z38 z39 z40 z41 z42 z43 z44 z45 z46 z47 z48 z55 z56 z59 z60 z61 n3 n4 n5 n6 n7 n8 n9 n20 n21 n34 n35 n49 n50 n51 n52 n53 n54 n57 n58 n62 n63 va vb vc n f (by omega) F G (by have h9 : kad vc 4 (kst n (kby vc 32)) = F := hF; rw [hst] at h9; exact h9) (by have h9 : kfa vc 4 (kst n (kby vc 32)) (kup f n (kby vc 32)) = G := hG; rw [hst, hup] at h9; exact h9) hC hr hlocks _ _ (kW.sub hw [0, 1] rfl rfl) _ (lv_sub hl [0, 3, 4, 5, 6] rfl)
        · refine lv_aload_n hx hb dX12_feed_93 rfl (lv_at hl 3 rfl) ?_
          refine fg_RX12_7 hC hw 0 rfl rfl dX12_feed_94 ?_
          refine lv_aload_n hx hb dX12_feed_97 rfl (lv_at hl 3 rfl) ?_
          refine fg_RX12_148 hC hw 0 rfl rfl dX12_feed_98 ?_
          refine lv_iload hx hb dX12_feed_101 (lv_at hl 0 rfl) ?_
          refine k_iast hC hw 1 rfl (vp_in_nI hlt (by decide)) dX12_feed_103 (fun H locs hw => ?_)
          obtain ⟨f_121, ef_121⟩ : ∃ g, g = upd f ((nI n) : Int32).toNatClampNeg x_118 := ⟨_, rfl⟩
          have hw : kW γ A [(z, .inr (11, [.int 0, .int (nI n), .ref z2, .int n3, .int n4, .int n5, .int n6, .long n7, .int n8, .int n9, .ref z10, .ref z11, .ref z12, .ref z13, .ref z14, .ref z15, .ref z16, .ref z17, .ref z18, .ref z19, .int n20, .int n21, .ref z22, .ref z23, .ref z24, .ref z25, .ref z26, .ref z27, .ref z28, .ref z29, .ref z30, .ref z31, .ref z32, .ref z33, .int n34, .long n35, .ref z36, .ref z37, .ref z38, .ref z39, .ref z40, .ref z41, .ref z42, .ref z43, .ref z44, .ref z45, .ref z46, .ref z47, .ref z48, .int n49, .int n50, .int n51, .int n52, .int n53, .int n54, .ref z55, .ref z56, .int n57, .int n58, .ref z59, .ref z60, .ref z61, .int n62, .long n63])), (z2, .inl (γ.2.1 0, 1000, .inl f_121))] s H locs := by rw [ef_121]; exact hw
          refine lv_aload_n hx hb dX12_feed_104 rfl (lv_at hl 3 rfl) ?_
          refine lv_dup hx hb dX12_feed_105 rfl ?_
          refine fg_RX12_148 hC hw 0 rfl rfl dX12_feed_106 ?_
          refine lv_iconst (v := 1) hx hb dX12_feed_109 (by decide) ?_
          refine lv_iadd hx hb dX12_feed_110 ?_
          refine lv_topi (fun x_122 ex_122 => ?_)
          obtain rfl : x_122 = (nI (n + 1)) := ex_122.trans (nI_1 n)
          refine fs_RX12_148 hC hw 0 rfl rfl rfl (Nat.le_of_ble_eq_true rfl) dX12_feed_111 (fun H locs hw => ?_)
          have hw : kW γ A [(z, .inr (11, [.int 0, .int (nI (n + 1)), .ref z2, .int n3, .int n4, .int n5, .int n6, .long n7, .int n8, .int n9, .ref z10, .ref z11, .ref z12, .ref z13, .ref z14, .ref z15, .ref z16, .ref z17, .ref z18, .ref z19, .int n20, .int n21, .ref z22, .ref z23, .ref z24, .ref z25, .ref z26, .ref z27, .ref z28, .ref z29, .ref z30, .ref z31, .ref z32, .ref z33, .int n34, .long n35, .ref z36, .ref z37, .ref z38, .ref z39, .ref z40, .ref z41, .ref z42, .ref z43, .ref z44, .ref z45, .ref z46, .ref z47, .ref z48, .int n49, .int n50, .int n51, .int n52, .int n53, .int n54, .ref z55, .ref z56, .int n57, .int n58, .ref z59, .ref z60, .ref z61, .int n62, .long n63])), (z2, .inl (γ.2.1 0, 1000, .inl f_121))] s H locs := hw
          refine lv_iinc (v := 20) (lv' := [(7, .int 20), (10, .int x_118), (8, .long vc), (0, .ref z), (1, .long va), (3, .long vb), (5, .long vc)]) hx hb dX12_feed_114 hl (k := 2) rfl (by decide) (by decide) rfl (fun ls hl => ?_)
          refine lv_goto (tgt := 8) hx hb dX12_feed_117 (by decide) ?_
          have hst : kst n (kby vc 32) = (n + 1) := by rw [← hk]; exact (by first | exact kst_full hfull | exact kst_a c76 hlt | exact kst_b c83 c90 hlt | exact kst_lo c76 c83 | exact kst_hi c76 c90)
          have hup : kup f n (kby vc 32) = f_121 := by rw [← hk, ef_121, nI_clamp (by omega)]; exact kup_y (by first | exact kok_a c76 | exact kok_b c83 c90) hlt
          exact mf_20 z z2 z10 z11 z12 z13 z14 z15 z16 z17 z18 z19 z22 z23 z24 z25 z26 z27 z28 z29 z30 z31 z32 z33 z36 z37 z38 z39 z40 z41 z42 z43 z44 z45 z46 z47 z48 z55 z56 z59 z60 z61 n3 n4 n5 n6 n7 n8 n9 n20 n21 n34 n35 n49 n50 n51 n52 n53 n54 n57 n58 n62 n63 va vb vc (n + 1) f_121 (by omega) F G (by have h9 : kad vc 4 (kst n (kby vc 32)) = F := hF; rw [hst] at h9; exact h9) (by have h9 : kfa vc 4 (kst n (kby vc 32)) (kup f n (kby vc 32)) = G := hG; rw [hst, hup] at h9; exact h9) hC hr hlocks _ _ (kW.sub hw [0, 1] rfl rfl) _ (lv_sub hl [0, 3, 4, 5, 6] rfl)

set_option maxHeartbeats 4000000 in
set_option maxRecDepth 100000 in
theorem mf_18 {γ : kΓ} {l : Launch} {p : Program} {e : Env} {s : State} {m : MethodId} {below : List Frame} {meth : Method} {c : Code} {A : Nat → Prop} (z : Nat) (z2 : Nat) (z10 : Nat) (z11 : Nat) (z12 : Nat) (z13 : Nat) (z14 : Nat) (z15 : Nat) (z16 : Nat) (z17 : Nat) (z18 : Nat) (z19 : Nat) (z22 : Nat) (z23 : Nat) (z24 : Nat) (z25 : Nat) (z26 : Nat) (z27 : Nat) (z28 : Nat) (z29 : Nat) (z30 : Nat) (z31 : Nat) (z32 : Nat) (z33 : Nat) (z36 : Nat) (z37 : Nat) (z38 : Nat) (z39 : Nat) (z40 : Nat) (z41 : Nat) (z42 : Nat) (z43 : Nat) (z44 : Nat) (z45 : Nat) (z46 : Nat) (z47 : Nat) (z48 : Nat) (z55 : Nat) (z56 : Nat) (z59 : Nat) (z60 : Nat) (z61 : Nat) (n3 : Int32) (n4 : Int32) (n5 : Int32) (n6 : Int32) (n7 : Int64) (n8 : Int32) (n9 : Int32) (n20 : Int32) (n21 : Int32) (n34 : Int32) (n35 : Int64) (n49 : Int32) (n50 : Int32) (n51 : Int32) (n52 : Int32) (n53 : Int32) (n54 : Int32) (n57 : Int32) (n58 : Int32) (n62 : Int32) (n63 : Int64) (va : Int64) (vb : Int64) (vc : Int64) (n : Nat) (f : Nat → Int32) (hn : n ≤ 1000) (F : Nat) (G : Nat → Int32) (hF : kad vc 6 n = F) (hG : kfa vc 6 n f = G) (hC : kC γ p s m [.ref z, .long va, .long vb, .long vc].toArray c cX12_feed 11 RX12 A) (hr : meth.sig.returnType = (some .int)) (hlocks : meth.locks = false) (H : Heap) (locs : List Loc) (hw : kW γ A [(z, .inr (11, [.int 0, .int (nI n), .ref z2, .int n3, .int n4, .int n5, .int n6, .long n7, .int n8, .int n9, .ref z10, .ref z11, .ref z12, .ref z13, .ref z14, .ref z15, .ref z16, .ref z17, .ref z18, .ref z19, .int n20, .int n21, .ref z22, .ref z23, .ref z24, .ref z25, .ref z26, .ref z27, .ref z28, .ref z29, .ref z30, .ref z31, .ref z32, .ref z33, .int n34, .long n35, .ref z36, .ref z37, .ref z38, .ref z39, .ref z40, .ref z41, .ref z42, .ref z43, .ref z44, .ref z45, .ref z46, .ref z47, .ref z48, .int n49, .int n50, .int n51, .int n52, .int n53, .int n54, .ref z55, .ref z56, .int n57, .int n58, .ref z59, .ref z60, .ref z61, .int n62, .long n63])), (z2, .inl (γ.2.1 0, 1000, .inl f))] s H locs) (ls : Array Slot) (hl : lv_has ls 11 [(7, .int 18), (0, .ref z), (1, .long va), (3, .long vb), (5, .long vc)]) : W p l e ({ frames := 0, cells := 0, slots := 0, locals := 0 } : Room) s m [.ref z, .long va, .long vb, .long vc].toArray below meth c H locs 0 0 (MQ below (kQ γ A (fun r w1 => r = some (.int (nI F)) ∧ w1 = [(z, .inr (11, [.int 0, .int (nI F), .ref z2, .int n3, .int n4, .int n5, .int n6, .long n7, .int n8, .int n9, .ref z10, .ref z11, .ref z12, .ref z13, .ref z14, .ref z15, .ref z16, .ref z17, .ref z18, .ref z19, .int n20, .int n21, .ref z22, .ref z23, .ref z24, .ref z25, .ref z26, .ref z27, .ref z28, .ref z29, .ref z30, .ref z31, .ref z32, .ref z33, .int n34, .long n35, .ref z36, .ref z37, .ref z38, .ref z39, .ref z40, .ref z41, .ref z42, .ref z43, .ref z44, .ref z45, .ref z46, .ref z47, .ref z48, .int n49, .int n50, .int n51, .int n52, .int n53, .int n54, .ref z55, .ref z56, .int n57, .int n58, .ref z59, .ref z60, .ref z61, .int n62, .long n63])), (z2, .inl (γ.2.1 0, 1000, .inl G))])) [.ref z, .long va, .long vb, .long vc].toArray s 0 0 A) (F0 m 8 ls []) := by
  have hx := hC.1
  have hb := hC.2.1
  refine lv_iload hx hb dX12_feed_8 (lv_at hl 0 rfl) ?_
  refine lv_bipush (v := 24) hx hb dX12_feed_10 (by decide) ?_
  refine lv_icmp_ge (tgt := 120) hx hb dX12_feed_12 (by decide) (fun h => absurd h (by decide)) (fun _ => ?_)
  refine lv_iload hx hb dX12_feed_15 (lv_at hl 0 rfl) ?_
  refine lv_bipush (v := 8) hx hb dX12_feed_17 (by decide) ?_
  refine lv_icmp_ge (tgt := 26) hx hb dX12_feed_19 (by decide) (fun _ => ?_) (fun h => absurd (by decide) h)
  refine lv_iload hx hb dX12_feed_26 (lv_at hl 0 rfl) ?_
  refine lv_bipush (v := 16) hx hb dX12_feed_28 (by decide) ?_
  refine lv_icmp_ge (tgt := 37) hx hb dX12_feed_30 (by decide) (fun _ => ?_) (fun h => absurd (by decide) h)
  refine lv_lload hx hb dX12_feed_37 (lv_at hl 4 rfl) ?_
  refine lv_lstore (lv' := [(8, .long vc), (7, .int 18), (0, .ref z), (1, .long va), (3, .long vb), (5, .long vc)]) hx hb dX12_feed_39 hl (by decide) rfl (fun ls hl => ?_)
  refine lv_lload hx hb dX12_feed_41 (lv_at hl 0 rfl) ?_
  refine lv_bipush (v := 56) hx hb dX12_feed_43 (by decide) ?_
  refine lv_bipush (v := 8) hx hb dX12_feed_45 (by decide) ?_
  refine lv_iload hx hb dX12_feed_47 (lv_at hl 1 rfl) ?_
  refine lv_bipush (v := 7) hx hb dX12_feed_49 (by decide) ?_
  refine lv_iand hx hb dX12_feed_51 ?_
  refine lv_topi (fun x_123 ex_123 => ?_)
  obtain rfl : x_123 = 2 := ex_123.trans (by decide)
  refine lv_imul hx hb dX12_feed_52 ?_
  refine lv_topi (fun x_124 ex_124 => ?_)
  obtain rfl : x_124 = 16 := ex_124.trans (by decide)
  refine lv_isub hx hb dX12_feed_53 ?_
  refine lv_topi (fun x_125 ex_125 => ?_)
  obtain rfl : x_125 = 40 := ex_125.trans (by decide)
  refine lv_lushr hx hb dX12_feed_54 rfl ?_
  refine lv_topl (fun x_126 ex_126 => ?_)
  refine k_ldc2 hC gw_1389 dX12_feed_55 ?_
  refine lv_land hx hb dX12_feed_58 ?_
  refine lv_topl (fun x_127 ex_127 => ?_)
  refine lv_l2i hx hb dX12_feed_59 rfl ?_
  refine lv_topi (fun x_128 ex_128 => ?_)
  refine lv_istore (lv' := [(10, .int x_128), (8, .long vc), (7, .int 18), (0, .ref z), (1, .long va), (3, .long vb), (5, .long vc)]) hx hb dX12_feed_60 hl (by decide) rfl (fun ls hl => ?_)
  have hk : x_128 = kby vc 40 := by rw [ex_128, ex_127, k_land, ex_126]; rfl
  refine lv_aload_n hx hb dX12_feed_62 rfl (lv_at hl 3 rfl) ?_
  refine fg_RX12_148 hC hw 0 rfl rfl dX12_feed_63 ?_
  refine lv_sipush (v := 1000) hx hb dX12_feed_66 (by decide) ?_
  refine lv_icmp_ge (tgt := 114) hx hb dX12_feed_69 (by decide) (fun c69 => ?_) (fun c69 => ?_)
  · have hfull : ¬ n < 1000 := fun h9 => absurd c69 (nI_ge h9 (by decide))
    refine lv_iinc (v := 19) (lv' := [(7, .int 19), (10, .int x_128), (8, .long vc), (0, .ref z), (1, .long va), (3, .long vb), (5, .long vc)]) hx hb dX12_feed_114 hl (k := 2) rfl (by decide) (by decide) rfl (fun ls hl => ?_)
    refine lv_goto (tgt := 8) hx hb dX12_feed_117 (by decide) ?_
    have hst : kst n (kby vc 40) = n := by rw [← hk]; exact (by first | exact kst_full hfull | exact kst_a c76 hlt | exact kst_b c83 c90 hlt | exact kst_lo c76 c83 | exact kst_hi c76 c90)
    have hup : kup f n (kby vc 40) = f := by rw [← hk]; exact (by first | exact kup_full hfull | exact kup_lo c76 c83 | exact kup_hi c76 c90)
    exact mf_19 z z2 z10 z11 z12 z13 z14 z15 z16 z17 z18 z19 z22 z23 z24 z25 z26 z27 z28 z29 z30 z31 z32 z33 z36 z37 z38 z39 z40 z41 z42 z43 z44 z45 z46 z47 z48 z55 z56 z59 z60 z61 n3 n4 n5 n6 n7 n8 n9 n20 n21 n34 n35 n49 n50 n51 n52 n53 n54 n57 n58 n62 n63 va vb vc n f (by omega) F G (by have h9 : kad vc 5 (kst n (kby vc 40)) = F := hF; rw [hst] at h9; exact h9) (by have h9 : kfa vc 5 (kst n (kby vc 40)) (kup f n (kby vc 40)) = G := hG; rw [hst, hup] at h9; exact h9) hC hr hlocks _ _ (kW.sub hw [0, 1] rfl rfl) _ (lv_sub hl [0, 3, 4, 5, 6] rfl)
  · have hlt : n < 1000 := by rcases Nat.lt_or_ge n 1000 with h9 | h9; exact h9; exact absurd (nI_le h9 (by omega)) c69
    refine lv_iload hx hb dX12_feed_72 (lv_at hl 0 rfl) ?_
    refine lv_bipush (v := 10) hx hb dX12_feed_74 (by decide) ?_
    refine lv_icmp_eq (tgt := 93) hx hb dX12_feed_76 (by decide) (fun c76 => ?_) (fun c76 => ?_)
    · refine lv_aload_n hx hb dX12_feed_93 rfl (lv_at hl 3 rfl) ?_
      refine fg_RX12_7 hC hw 0 rfl rfl dX12_feed_94 ?_
      refine lv_aload_n hx hb dX12_feed_97 rfl (lv_at hl 3 rfl) ?_
      refine fg_RX12_148 hC hw 0 rfl rfl dX12_feed_98 ?_
      refine lv_iload hx hb dX12_feed_101 (lv_at hl 0 rfl) ?_
      refine k_iast hC hw 1 rfl (vp_in_nI hlt (by decide)) dX12_feed_103 (fun H locs hw => ?_)
      obtain ⟨f_129, ef_129⟩ : ∃ g, g = upd f ((nI n) : Int32).toNatClampNeg x_128 := ⟨_, rfl⟩
      have hw : kW γ A [(z, .inr (11, [.int 0, .int (nI n), .ref z2, .int n3, .int n4, .int n5, .int n6, .long n7, .int n8, .int n9, .ref z10, .ref z11, .ref z12, .ref z13, .ref z14, .ref z15, .ref z16, .ref z17, .ref z18, .ref z19, .int n20, .int n21, .ref z22, .ref z23, .ref z24, .ref z25, .ref z26, .ref z27, .ref z28, .ref z29, .ref z30, .ref z31, .ref z32, .ref z33, .int n34, .long n35, .ref z36, .ref z37, .ref z38, .ref z39, .ref z40, .ref z41, .ref z42, .ref z43, .ref z44, .ref z45, .ref z46, .ref z47, .ref z48, .int n49, .int n50, .int n51, .int n52, .int n53, .int n54, .ref z55, .ref z56, .int n57, .int n58, .ref z59, .ref z60, .ref z61, .int n62, .long n63])), (z2, .inl (γ.2.1 0, 1000, .inl f_129))] s H locs := by rw [ef_129]; exact hw
      refine lv_aload_n hx hb dX12_feed_104 rfl (lv_at hl 3 rfl) ?_
      refine lv_dup hx hb dX12_feed_105 rfl ?_
      refine fg_RX12_148 hC hw 0 rfl rfl dX12_feed_106 ?_
      refine lv_iconst (v := 1) hx hb dX12_feed_109 (by decide) ?_
      refine lv_iadd hx hb dX12_feed_110 ?_
      refine lv_topi (fun x_130 ex_130 => ?_)
      obtain rfl : x_130 = (nI (n + 1)) := ex_130.trans (nI_1 n)
      refine fs_RX12_148 hC hw 0 rfl rfl rfl (Nat.le_of_ble_eq_true rfl) dX12_feed_111 (fun H locs hw => ?_)
      have hw : kW γ A [(z, .inr (11, [.int 0, .int (nI (n + 1)), .ref z2, .int n3, .int n4, .int n5, .int n6, .long n7, .int n8, .int n9, .ref z10, .ref z11, .ref z12, .ref z13, .ref z14, .ref z15, .ref z16, .ref z17, .ref z18, .ref z19, .int n20, .int n21, .ref z22, .ref z23, .ref z24, .ref z25, .ref z26, .ref z27, .ref z28, .ref z29, .ref z30, .ref z31, .ref z32, .ref z33, .int n34, .long n35, .ref z36, .ref z37, .ref z38, .ref z39, .ref z40, .ref z41, .ref z42, .ref z43, .ref z44, .ref z45, .ref z46, .ref z47, .ref z48, .int n49, .int n50, .int n51, .int n52, .int n53, .int n54, .ref z55, .ref z56, .int n57, .int n58, .ref z59, .ref z60, .ref z61, .int n62, .long n63])), (z2, .inl (γ.2.1 0, 1000, .inl f_129))] s H locs := hw
      refine lv_iinc (v := 19) (lv' := [(7, .int 19), (10, .int x_128), (8, .long vc), (0, .ref z), (1, .long va), (3, .long vb), (5, .long vc)]) hx hb dX12_feed_114 hl (k := 2) rfl (by decide) (by decide) rfl (fun ls hl => ?_)
      refine lv_goto (tgt := 8) hx hb dX12_feed_117 (by decide) ?_
      have hst : kst n (kby vc 40) = (n + 1) := by rw [← hk]; exact (by first | exact kst_full hfull | exact kst_a c76 hlt | exact kst_b c83 c90 hlt | exact kst_lo c76 c83 | exact kst_hi c76 c90)
      have hup : kup f n (kby vc 40) = f_129 := by rw [← hk, ef_129, nI_clamp (by omega)]; exact kup_y (by first | exact kok_a c76 | exact kok_b c83 c90) hlt
      exact mf_19 z z2 z10 z11 z12 z13 z14 z15 z16 z17 z18 z19 z22 z23 z24 z25 z26 z27 z28 z29 z30 z31 z32 z33 z36 z37 z38 z39 z40 z41 z42 z43 z44 z45 z46 z47 z48 z55 z56 z59 z60 z61 n3 n4 n5 n6 n7 n8 n9 n20 n21 n34 n35 n49 n50 n51 n52 n53 n54 n57 n58 n62 n63 va vb vc (n + 1) f_129 (by omega) F G (by have h9 : kad vc 5 (kst n (kby vc 40)) = F := hF; rw [hst] at h9; exact h9) (by have h9 : kfa vc 5 (kst n (kby vc 40)) (kup f n (kby vc 40)) = G := hG; rw [hst, hup] at h9; exact h9) hC hr hlocks _ _ (kW.sub hw [0, 1] rfl rfl) _ (lv_sub hl [0, 3, 4, 5, 6] rfl)
    · refine lv_iload hx hb dX12_feed_79 (lv_at hl 0 rfl) ?_
      refine lv_bipush (v := 32) hx hb dX12_feed_81 (by decide) ?_
      refine lv_icmp_lt (tgt := 114) hx hb dX12_feed_83 (by decide) (fun c83 => ?_) (fun c83 => ?_)
      · refine lv_iinc (v := 19) (lv' := [(7, .int 19), (10, .int x_128), (8, .long vc), (0, .ref z), (1, .long va), (3, .long vb), (5, .long vc)]) hx hb dX12_feed_114 hl (k := 2) rfl (by decide) (by decide) rfl (fun ls hl => ?_)
        refine lv_goto (tgt := 8) hx hb dX12_feed_117 (by decide) ?_
        have hst : kst n (kby vc 40) = n := by rw [← hk]; exact (by first | exact kst_full hfull | exact kst_a c76 hlt | exact kst_b c83 c90 hlt | exact kst_lo c76 c83 | exact kst_hi c76 c90)
        have hup : kup f n (kby vc 40) = f := by rw [← hk]; exact (by first | exact kup_full hfull | exact kup_lo c76 c83 | exact kup_hi c76 c90)
        exact mf_19 z z2 z10 z11 z12 z13 z14 z15 z16 z17 z18 z19 z22 z23 z24 z25 z26 z27 z28 z29 z30 z31 z32 z33 z36 z37 z38 z39 z40 z41 z42 z43 z44 z45 z46 z47 z48 z55 z56 z59 z60 z61 n3 n4 n5 n6 n7 n8 n9 n20 n21 n34 n35 n49 n50 n51 n52 n53 n54 n57 n58 n62 n63 va vb vc n f (by omega) F G (by have h9 : kad vc 5 (kst n (kby vc 40)) = F := hF; rw [hst] at h9; exact h9) (by have h9 : kfa vc 5 (kst n (kby vc 40)) (kup f n (kby vc 40)) = G := hG; rw [hst, hup] at h9; exact h9) hC hr hlocks _ _ (kW.sub hw [0, 1] rfl rfl) _ (lv_sub hl [0, 3, 4, 5, 6] rfl)
      · refine lv_iload hx hb dX12_feed_86 (lv_at hl 0 rfl) ?_
        refine lv_bipush (v := 126) hx hb dX12_feed_88 (by decide) ?_
        refine lv_icmp_gt (tgt := 114) hx hb dX12_feed_90 (by decide) (fun c90 => ?_) (fun c90 => ?_)
        · refine lv_iinc (v := 19) (lv' := [(7, .int 19), (10, .int x_128), (8, .long vc), (0, .ref z), (1, .long va), (3, .long vb), (5, .long vc)]) hx hb dX12_feed_114 hl (k := 2) rfl (by decide) (by decide) rfl (fun ls hl => ?_)
          refine lv_goto (tgt := 8) hx hb dX12_feed_117 (by decide) ?_
          have hst : kst n (kby vc 40) = n := by rw [← hk]; exact (by first | exact kst_full hfull | exact kst_a c76 hlt | exact kst_b c83 c90 hlt | exact kst_lo c76 c83 | exact kst_hi c76 c90)
          have hup : kup f n (kby vc 40) = f := by rw [← hk]; exact (by first | exact kup_full hfull | exact kup_lo c76 c83 | exact kup_hi c76 c90)
          exact mf_19 z z2 z10 z11 z12 z13 z14 z15 z16 z17 z18 z19 z22 z23 z24 z25 z26 z27 z28 z29 z30 z31 z32 z33 z36 z37 z38 z39 z40 z41 z42 z43 z44 z45 z46 z47 z48 z55 z56 z59 z60 z61 n3 n4 n5 n6 n7 n8 n9 n20 n21 n34 n35 n49 n50 n51 n52 n53 n54 n57 n58 n62 n63 va vb vc n f (by omega) F G (by have h9 : kad vc 5 (kst n (kby vc 40)) = F := hF; rw [hst] at h9; exact h9) (by have h9 : kfa vc 5 (kst n (kby vc 40)) (kup f n (kby vc 40)) = G := hG; rw [hst, hup] at h9; exact h9) hC hr hlocks _ _ (kW.sub hw [0, 1] rfl rfl) _ (lv_sub hl [0, 3, 4, 5, 6] rfl)
        · refine lv_aload_n hx hb dX12_feed_93 rfl (lv_at hl 3 rfl) ?_
          refine fg_RX12_7 hC hw 0 rfl rfl dX12_feed_94 ?_
          refine lv_aload_n hx hb dX12_feed_97 rfl (lv_at hl 3 rfl) ?_
          refine fg_RX12_148 hC hw 0 rfl rfl dX12_feed_98 ?_
          refine lv_iload hx hb dX12_feed_101 (lv_at hl 0 rfl) ?_
          refine k_iast hC hw 1 rfl (vp_in_nI hlt (by decide)) dX12_feed_103 (fun H locs hw => ?_)
          obtain ⟨f_131, ef_131⟩ : ∃ g, g = upd f ((nI n) : Int32).toNatClampNeg x_128 := ⟨_, rfl⟩
          have hw : kW γ A [(z, .inr (11, [.int 0, .int (nI n), .ref z2, .int n3, .int n4, .int n5, .int n6, .long n7, .int n8, .int n9, .ref z10, .ref z11, .ref z12, .ref z13, .ref z14, .ref z15, .ref z16, .ref z17, .ref z18, .ref z19, .int n20, .int n21, .ref z22, .ref z23, .ref z24, .ref z25, .ref z26, .ref z27, .ref z28, .ref z29, .ref z30, .ref z31, .ref z32, .ref z33, .int n34, .long n35, .ref z36, .ref z37, .ref z38, .ref z39, .ref z40, .ref z41, .ref z42, .ref z43, .ref z44, .ref z45, .ref z46, .ref z47, .ref z48, .int n49, .int n50, .int n51, .int n52, .int n53, .int n54, .ref z55, .ref z56, .int n57, .int n58, .ref z59, .ref z60, .ref z61, .int n62, .long n63])), (z2, .inl (γ.2.1 0, 1000, .inl f_131))] s H locs := by rw [ef_131]; exact hw
          refine lv_aload_n hx hb dX12_feed_104 rfl (lv_at hl 3 rfl) ?_
          refine lv_dup hx hb dX12_feed_105 rfl ?_
          refine fg_RX12_148 hC hw 0 rfl rfl dX12_feed_106 ?_
          refine lv_iconst (v := 1) hx hb dX12_feed_109 (by decide) ?_
          refine lv_iadd hx hb dX12_feed_110 ?_
          refine lv_topi (fun x_132 ex_132 => ?_)
          obtain rfl : x_132 = (nI (n + 1)) := ex_132.trans (nI_1 n)
          refine fs_RX12_148 hC hw 0 rfl rfl rfl (Nat.le_of_ble_eq_true rfl) dX12_feed_111 (fun H locs hw => ?_)
          have hw : kW γ A [(z, .inr (11, [.int 0, .int (nI (n + 1)), .ref z2, .int n3, .int n4, .int n5, .int n6, .long n7, .int n8, .int n9, .ref z10, .ref z11, .ref z12, .ref z13, .ref z14, .ref z15, .ref z16, .ref z17, .ref z18, .ref z19, .int n20, .int n21, .ref z22, .ref z23, .ref z24, .ref z25, .ref z26, .ref z27, .ref z28, .ref z29, .ref z30, .ref z31, .ref z32, .ref z33, .int n34, .long n35, .ref z36, .ref z37, .ref z38, .ref z39, .ref z40, .ref z41, .ref z42, .ref z43, .ref z44, .ref z45, .ref z46, .ref z47, .ref z48, .int n49, .int n50, .int n51, .int n52, .int n53, .int n54, .ref z55, .ref z56, .int n57, .int n58, .ref z59, .ref z60, .ref z61, .int n62, .long n63])), (z2, .inl (γ.2.1 0, 1000, .inl f_131))] s H locs := hw
          refine lv_iinc (v := 19) (lv' := [(7, .int 19), (10, .int x_128), (8, .long vc), (0, .ref z), (1, .long va), (3, .long vb), (5, .long vc)]) hx hb dX12_feed_114 hl (k := 2) rfl (by decide) (by decide) rfl (fun ls hl => ?_)
          refine lv_goto (tgt := 8) hx hb dX12_feed_117 (by decide) ?_
          have hst : kst n (kby vc 40) = (n + 1) := by rw [← hk]; exact (by first | exact kst_full hfull | exact kst_a c76 hlt | exact kst_b c83 c90 hlt | exact kst_lo c76 c83 | exact kst_hi c76 c90)
          have hup : kup f n (kby vc 40) = f_131 := by rw [← hk, ef_131, nI_clamp (by omega)]; exact kup_y (by first | exact kok_a c76 | exact kok_b c83 c90) hlt
          exact mf_19 z z2 z10 z11 z12 z13 z14 z15 z16 z17 z18 z19 z22 z23 z24 z25 z26 z27 z28 z29 z30 z31 z32 z33 z36 z37 z38 z39 z40 z41 z42 z43 z44 z45 z46 z47 z48 z55 z56 z59 z60 z61 n3 n4 n5 n6 n7 n8 n9 n20 n21 n34 n35 n49 n50 n51 n52 n53 n54 n57 n58 n62 n63 va vb vc (n + 1) f_131 (by omega) F G (by have h9 : kad vc 5 (kst n (kby vc 40)) = F := hF; rw [hst] at h9; exact h9) (by have h9 : kfa vc 5 (kst n (kby vc 40)) (kup f n (kby vc 40)) = G := hG; rw [hst, hup] at h9; exact h9) hC hr hlocks _ _ (kW.sub hw [0, 1] rfl rfl) _ (lv_sub hl [0, 3, 4, 5, 6] rfl)

set_option maxHeartbeats 4000000 in
set_option maxRecDepth 100000 in
theorem mf_17 {γ : kΓ} {l : Launch} {p : Program} {e : Env} {s : State} {m : MethodId} {below : List Frame} {meth : Method} {c : Code} {A : Nat → Prop} (z : Nat) (z2 : Nat) (z10 : Nat) (z11 : Nat) (z12 : Nat) (z13 : Nat) (z14 : Nat) (z15 : Nat) (z16 : Nat) (z17 : Nat) (z18 : Nat) (z19 : Nat) (z22 : Nat) (z23 : Nat) (z24 : Nat) (z25 : Nat) (z26 : Nat) (z27 : Nat) (z28 : Nat) (z29 : Nat) (z30 : Nat) (z31 : Nat) (z32 : Nat) (z33 : Nat) (z36 : Nat) (z37 : Nat) (z38 : Nat) (z39 : Nat) (z40 : Nat) (z41 : Nat) (z42 : Nat) (z43 : Nat) (z44 : Nat) (z45 : Nat) (z46 : Nat) (z47 : Nat) (z48 : Nat) (z55 : Nat) (z56 : Nat) (z59 : Nat) (z60 : Nat) (z61 : Nat) (n3 : Int32) (n4 : Int32) (n5 : Int32) (n6 : Int32) (n7 : Int64) (n8 : Int32) (n9 : Int32) (n20 : Int32) (n21 : Int32) (n34 : Int32) (n35 : Int64) (n49 : Int32) (n50 : Int32) (n51 : Int32) (n52 : Int32) (n53 : Int32) (n54 : Int32) (n57 : Int32) (n58 : Int32) (n62 : Int32) (n63 : Int64) (va : Int64) (vb : Int64) (vc : Int64) (n : Nat) (f : Nat → Int32) (hn : n ≤ 1000) (F : Nat) (G : Nat → Int32) (hF : kad vc 7 n = F) (hG : kfa vc 7 n f = G) (hC : kC γ p s m [.ref z, .long va, .long vb, .long vc].toArray c cX12_feed 11 RX12 A) (hr : meth.sig.returnType = (some .int)) (hlocks : meth.locks = false) (H : Heap) (locs : List Loc) (hw : kW γ A [(z, .inr (11, [.int 0, .int (nI n), .ref z2, .int n3, .int n4, .int n5, .int n6, .long n7, .int n8, .int n9, .ref z10, .ref z11, .ref z12, .ref z13, .ref z14, .ref z15, .ref z16, .ref z17, .ref z18, .ref z19, .int n20, .int n21, .ref z22, .ref z23, .ref z24, .ref z25, .ref z26, .ref z27, .ref z28, .ref z29, .ref z30, .ref z31, .ref z32, .ref z33, .int n34, .long n35, .ref z36, .ref z37, .ref z38, .ref z39, .ref z40, .ref z41, .ref z42, .ref z43, .ref z44, .ref z45, .ref z46, .ref z47, .ref z48, .int n49, .int n50, .int n51, .int n52, .int n53, .int n54, .ref z55, .ref z56, .int n57, .int n58, .ref z59, .ref z60, .ref z61, .int n62, .long n63])), (z2, .inl (γ.2.1 0, 1000, .inl f))] s H locs) (ls : Array Slot) (hl : lv_has ls 11 [(7, .int 17), (0, .ref z), (1, .long va), (3, .long vb), (5, .long vc)]) : W p l e ({ frames := 0, cells := 0, slots := 0, locals := 0 } : Room) s m [.ref z, .long va, .long vb, .long vc].toArray below meth c H locs 0 0 (MQ below (kQ γ A (fun r w1 => r = some (.int (nI F)) ∧ w1 = [(z, .inr (11, [.int 0, .int (nI F), .ref z2, .int n3, .int n4, .int n5, .int n6, .long n7, .int n8, .int n9, .ref z10, .ref z11, .ref z12, .ref z13, .ref z14, .ref z15, .ref z16, .ref z17, .ref z18, .ref z19, .int n20, .int n21, .ref z22, .ref z23, .ref z24, .ref z25, .ref z26, .ref z27, .ref z28, .ref z29, .ref z30, .ref z31, .ref z32, .ref z33, .int n34, .long n35, .ref z36, .ref z37, .ref z38, .ref z39, .ref z40, .ref z41, .ref z42, .ref z43, .ref z44, .ref z45, .ref z46, .ref z47, .ref z48, .int n49, .int n50, .int n51, .int n52, .int n53, .int n54, .ref z55, .ref z56, .int n57, .int n58, .ref z59, .ref z60, .ref z61, .int n62, .long n63])), (z2, .inl (γ.2.1 0, 1000, .inl G))])) [.ref z, .long va, .long vb, .long vc].toArray s 0 0 A) (F0 m 8 ls []) := by
  have hx := hC.1
  have hb := hC.2.1
  refine lv_iload hx hb dX12_feed_8 (lv_at hl 0 rfl) ?_
  refine lv_bipush (v := 24) hx hb dX12_feed_10 (by decide) ?_
  refine lv_icmp_ge (tgt := 120) hx hb dX12_feed_12 (by decide) (fun h => absurd h (by decide)) (fun _ => ?_)
  refine lv_iload hx hb dX12_feed_15 (lv_at hl 0 rfl) ?_
  refine lv_bipush (v := 8) hx hb dX12_feed_17 (by decide) ?_
  refine lv_icmp_ge (tgt := 26) hx hb dX12_feed_19 (by decide) (fun _ => ?_) (fun h => absurd (by decide) h)
  refine lv_iload hx hb dX12_feed_26 (lv_at hl 0 rfl) ?_
  refine lv_bipush (v := 16) hx hb dX12_feed_28 (by decide) ?_
  refine lv_icmp_ge (tgt := 37) hx hb dX12_feed_30 (by decide) (fun _ => ?_) (fun h => absurd (by decide) h)
  refine lv_lload hx hb dX12_feed_37 (lv_at hl 4 rfl) ?_
  refine lv_lstore (lv' := [(8, .long vc), (7, .int 17), (0, .ref z), (1, .long va), (3, .long vb), (5, .long vc)]) hx hb dX12_feed_39 hl (by decide) rfl (fun ls hl => ?_)
  refine lv_lload hx hb dX12_feed_41 (lv_at hl 0 rfl) ?_
  refine lv_bipush (v := 56) hx hb dX12_feed_43 (by decide) ?_
  refine lv_bipush (v := 8) hx hb dX12_feed_45 (by decide) ?_
  refine lv_iload hx hb dX12_feed_47 (lv_at hl 1 rfl) ?_
  refine lv_bipush (v := 7) hx hb dX12_feed_49 (by decide) ?_
  refine lv_iand hx hb dX12_feed_51 ?_
  refine lv_topi (fun x_133 ex_133 => ?_)
  obtain rfl : x_133 = 1 := ex_133.trans (by decide)
  refine lv_imul hx hb dX12_feed_52 ?_
  refine lv_topi (fun x_134 ex_134 => ?_)
  obtain rfl : x_134 = 8 := ex_134.trans (by decide)
  refine lv_isub hx hb dX12_feed_53 ?_
  refine lv_topi (fun x_135 ex_135 => ?_)
  obtain rfl : x_135 = 48 := ex_135.trans (by decide)
  refine lv_lushr hx hb dX12_feed_54 rfl ?_
  refine lv_topl (fun x_136 ex_136 => ?_)
  refine k_ldc2 hC gw_1389 dX12_feed_55 ?_
  refine lv_land hx hb dX12_feed_58 ?_
  refine lv_topl (fun x_137 ex_137 => ?_)
  refine lv_l2i hx hb dX12_feed_59 rfl ?_
  refine lv_topi (fun x_138 ex_138 => ?_)
  refine lv_istore (lv' := [(10, .int x_138), (8, .long vc), (7, .int 17), (0, .ref z), (1, .long va), (3, .long vb), (5, .long vc)]) hx hb dX12_feed_60 hl (by decide) rfl (fun ls hl => ?_)
  have hk : x_138 = kby vc 48 := by rw [ex_138, ex_137, k_land, ex_136]; rfl
  refine lv_aload_n hx hb dX12_feed_62 rfl (lv_at hl 3 rfl) ?_
  refine fg_RX12_148 hC hw 0 rfl rfl dX12_feed_63 ?_
  refine lv_sipush (v := 1000) hx hb dX12_feed_66 (by decide) ?_
  refine lv_icmp_ge (tgt := 114) hx hb dX12_feed_69 (by decide) (fun c69 => ?_) (fun c69 => ?_)
  · have hfull : ¬ n < 1000 := fun h9 => absurd c69 (nI_ge h9 (by decide))
    refine lv_iinc (v := 18) (lv' := [(7, .int 18), (10, .int x_138), (8, .long vc), (0, .ref z), (1, .long va), (3, .long vb), (5, .long vc)]) hx hb dX12_feed_114 hl (k := 2) rfl (by decide) (by decide) rfl (fun ls hl => ?_)
    refine lv_goto (tgt := 8) hx hb dX12_feed_117 (by decide) ?_
    have hst : kst n (kby vc 48) = n := by rw [← hk]; exact (by first | exact kst_full hfull | exact kst_a c76 hlt | exact kst_b c83 c90 hlt | exact kst_lo c76 c83 | exact kst_hi c76 c90)
    have hup : kup f n (kby vc 48) = f := by rw [← hk]; exact (by first | exact kup_full hfull | exact kup_lo c76 c83 | exact kup_hi c76 c90)
    exact mf_18 z z2 z10 z11 z12 z13 z14 z15 z16 z17 z18 z19 z22 z23 z24 z25 z26 z27 z28 z29 z30 z31 z32 z33 z36 z37 z38 z39 z40 z41 z42 z43 z44 z45 z46 z47 z48 z55 z56 z59 z60 z61 n3 n4 n5 n6 n7 n8 n9 n20 n21 n34 n35 n49 n50 n51 n52 n53 n54 n57 n58 n62 n63 va vb vc n f (by omega) F G (by have h9 : kad vc 6 (kst n (kby vc 48)) = F := hF; rw [hst] at h9; exact h9) (by have h9 : kfa vc 6 (kst n (kby vc 48)) (kup f n (kby vc 48)) = G := hG; rw [hst, hup] at h9; exact h9) hC hr hlocks _ _ (kW.sub hw [0, 1] rfl rfl) _ (lv_sub hl [0, 3, 4, 5, 6] rfl)
  · have hlt : n < 1000 := by rcases Nat.lt_or_ge n 1000 with h9 | h9; exact h9; exact absurd (nI_le h9 (by omega)) c69
    refine lv_iload hx hb dX12_feed_72 (lv_at hl 0 rfl) ?_
    refine lv_bipush (v := 10) hx hb dX12_feed_74 (by decide) ?_
    refine lv_icmp_eq (tgt := 93) hx hb dX12_feed_76 (by decide) (fun c76 => ?_) (fun c76 => ?_)
    · refine lv_aload_n hx hb dX12_feed_93 rfl (lv_at hl 3 rfl) ?_
      refine fg_RX12_7 hC hw 0 rfl rfl dX12_feed_94 ?_
      refine lv_aload_n hx hb dX12_feed_97 rfl (lv_at hl 3 rfl) ?_
      refine fg_RX12_148 hC hw 0 rfl rfl dX12_feed_98 ?_
      refine lv_iload hx hb dX12_feed_101 (lv_at hl 0 rfl) ?_
      refine k_iast hC hw 1 rfl (vp_in_nI hlt (by decide)) dX12_feed_103 (fun H locs hw => ?_)
      obtain ⟨f_139, ef_139⟩ : ∃ g, g = upd f ((nI n) : Int32).toNatClampNeg x_138 := ⟨_, rfl⟩
      have hw : kW γ A [(z, .inr (11, [.int 0, .int (nI n), .ref z2, .int n3, .int n4, .int n5, .int n6, .long n7, .int n8, .int n9, .ref z10, .ref z11, .ref z12, .ref z13, .ref z14, .ref z15, .ref z16, .ref z17, .ref z18, .ref z19, .int n20, .int n21, .ref z22, .ref z23, .ref z24, .ref z25, .ref z26, .ref z27, .ref z28, .ref z29, .ref z30, .ref z31, .ref z32, .ref z33, .int n34, .long n35, .ref z36, .ref z37, .ref z38, .ref z39, .ref z40, .ref z41, .ref z42, .ref z43, .ref z44, .ref z45, .ref z46, .ref z47, .ref z48, .int n49, .int n50, .int n51, .int n52, .int n53, .int n54, .ref z55, .ref z56, .int n57, .int n58, .ref z59, .ref z60, .ref z61, .int n62, .long n63])), (z2, .inl (γ.2.1 0, 1000, .inl f_139))] s H locs := by rw [ef_139]; exact hw
      refine lv_aload_n hx hb dX12_feed_104 rfl (lv_at hl 3 rfl) ?_
      refine lv_dup hx hb dX12_feed_105 rfl ?_
      refine fg_RX12_148 hC hw 0 rfl rfl dX12_feed_106 ?_
      refine lv_iconst (v := 1) hx hb dX12_feed_109 (by decide) ?_
      refine lv_iadd hx hb dX12_feed_110 ?_
      refine lv_topi (fun x_140 ex_140 => ?_)
      obtain rfl : x_140 = (nI (n + 1)) := ex_140.trans (nI_1 n)
      refine fs_RX12_148 hC hw 0 rfl rfl rfl (Nat.le_of_ble_eq_true rfl) dX12_feed_111 (fun H locs hw => ?_)
      have hw : kW γ A [(z, .inr (11, [.int 0, .int (nI (n + 1)), .ref z2, .int n3, .int n4, .int n5, .int n6, .long n7, .int n8, .int n9, .ref z10, .ref z11, .ref z12, .ref z13, .ref z14, .ref z15, .ref z16, .ref z17, .ref z18, .ref z19, .int n20, .int n21, .ref z22, .ref z23, .ref z24, .ref z25, .ref z26, .ref z27, .ref z28, .ref z29, .ref z30, .ref z31, .ref z32, .ref z33, .int n34, .long n35, .ref z36, .ref z37, .ref z38, .ref z39, .ref z40, .ref z41, .ref z42, .ref z43, .ref z44, .ref z45, .ref z46, .ref z47, .ref z48, .int n49, .int n50, .int n51, .int n52, .int n53, .int n54, .ref z55, .ref z56, .int n57, .int n58, .ref z59, .ref z60, .ref z61, .int n62, .long n63])), (z2, .inl (γ.2.1 0, 1000, .inl f_139))] s H locs := hw
      refine lv_iinc (v := 18) (lv' := [(7, .int 18), (10, .int x_138), (8, .long vc), (0, .ref z), (1, .long va), (3, .long vb), (5, .long vc)]) hx hb dX12_feed_114 hl (k := 2) rfl (by decide) (by decide) rfl (fun ls hl => ?_)
      refine lv_goto (tgt := 8) hx hb dX12_feed_117 (by decide) ?_
      have hst : kst n (kby vc 48) = (n + 1) := by rw [← hk]; exact (by first | exact kst_full hfull | exact kst_a c76 hlt | exact kst_b c83 c90 hlt | exact kst_lo c76 c83 | exact kst_hi c76 c90)
      have hup : kup f n (kby vc 48) = f_139 := by rw [← hk, ef_139, nI_clamp (by omega)]; exact kup_y (by first | exact kok_a c76 | exact kok_b c83 c90) hlt
      exact mf_18 z z2 z10 z11 z12 z13 z14 z15 z16 z17 z18 z19 z22 z23 z24 z25 z26 z27 z28 z29 z30 z31 z32 z33 z36 z37 z38 z39 z40 z41 z42 z43 z44 z45 z46 z47 z48 z55 z56 z59 z60 z61 n3 n4 n5 n6 n7 n8 n9 n20 n21 n34 n35 n49 n50 n51 n52 n53 n54 n57 n58 n62 n63 va vb vc (n + 1) f_139 (by omega) F G (by have h9 : kad vc 6 (kst n (kby vc 48)) = F := hF; rw [hst] at h9; exact h9) (by have h9 : kfa vc 6 (kst n (kby vc 48)) (kup f n (kby vc 48)) = G := hG; rw [hst, hup] at h9; exact h9) hC hr hlocks _ _ (kW.sub hw [0, 1] rfl rfl) _ (lv_sub hl [0, 3, 4, 5, 6] rfl)
    · refine lv_iload hx hb dX12_feed_79 (lv_at hl 0 rfl) ?_
      refine lv_bipush (v := 32) hx hb dX12_feed_81 (by decide) ?_
      refine lv_icmp_lt (tgt := 114) hx hb dX12_feed_83 (by decide) (fun c83 => ?_) (fun c83 => ?_)
      · refine lv_iinc (v := 18) (lv' := [(7, .int 18), (10, .int x_138), (8, .long vc), (0, .ref z), (1, .long va), (3, .long vb), (5, .long vc)]) hx hb dX12_feed_114 hl (k := 2) rfl (by decide) (by decide) rfl (fun ls hl => ?_)
        refine lv_goto (tgt := 8) hx hb dX12_feed_117 (by decide) ?_
        have hst : kst n (kby vc 48) = n := by rw [← hk]; exact (by first | exact kst_full hfull | exact kst_a c76 hlt | exact kst_b c83 c90 hlt | exact kst_lo c76 c83 | exact kst_hi c76 c90)
        have hup : kup f n (kby vc 48) = f := by rw [← hk]; exact (by first | exact kup_full hfull | exact kup_lo c76 c83 | exact kup_hi c76 c90)
        exact mf_18 z z2 z10 z11 z12 z13 z14 z15 z16 z17 z18 z19 z22 z23 z24 z25 z26 z27 z28 z29 z30 z31 z32 z33 z36 z37 z38 z39 z40 z41 z42 z43 z44 z45 z46 z47 z48 z55 z56 z59 z60 z61 n3 n4 n5 n6 n7 n8 n9 n20 n21 n34 n35 n49 n50 n51 n52 n53 n54 n57 n58 n62 n63 va vb vc n f (by omega) F G (by have h9 : kad vc 6 (kst n (kby vc 48)) = F := hF; rw [hst] at h9; exact h9) (by have h9 : kfa vc 6 (kst n (kby vc 48)) (kup f n (kby vc 48)) = G := hG; rw [hst, hup] at h9; exact h9) hC hr hlocks _ _ (kW.sub hw [0, 1] rfl rfl) _ (lv_sub hl [0, 3, 4, 5, 6] rfl)
      · refine lv_iload hx hb dX12_feed_86 (lv_at hl 0 rfl) ?_
        refine lv_bipush (v := 126) hx hb dX12_feed_88 (by decide) ?_
        refine lv_icmp_gt (tgt := 114) hx hb dX12_feed_90 (by decide) (fun c90 => ?_) (fun c90 => ?_)
        · refine lv_iinc (v := 18) (lv' := [(7, .int 18), (10, .int x_138), (8, .long vc), (0, .ref z), (1, .long va), (3, .long vb), (5, .long vc)]) hx hb dX12_feed_114 hl (k := 2) rfl (by decide) (by decide) rfl (fun ls hl => ?_)
          refine lv_goto (tgt := 8) hx hb dX12_feed_117 (by decide) ?_
          have hst : kst n (kby vc 48) = n := by rw [← hk]; exact (by first | exact kst_full hfull | exact kst_a c76 hlt | exact kst_b c83 c90 hlt | exact kst_lo c76 c83 | exact kst_hi c76 c90)
          have hup : kup f n (kby vc 48) = f := by rw [← hk]; exact (by first | exact kup_full hfull | exact kup_lo c76 c83 | exact kup_hi c76 c90)
          exact mf_18 z z2 z10 z11 z12 z13 z14 z15 z16 z17 z18 z19 z22 z23 z24 z25 z26 z27 z28 z29 z30 z31 z32 z33 z36 z37 z38 z39 z40 z41 z42 z43 z44 z45 z46 z47 z48 z55 z56 z59 z60 z61 n3 n4 n5 n6 n7 n8 n9 n20 n21 n34 n35 n49 n50 n51 n52 n53 n54 n57 n58 n62 n63 va vb vc n f (by omega) F G (by have h9 : kad vc 6 (kst n (kby vc 48)) = F := hF; rw [hst] at h9; exact h9) (by have h9 : kfa vc 6 (kst n (kby vc 48)) (kup f n (kby vc 48)) = G := hG; rw [hst, hup] at h9; exact h9) hC hr hlocks _ _ (kW.sub hw [0, 1] rfl rfl) _ (lv_sub hl [0, 3, 4, 5, 6] rfl)
        · refine lv_aload_n hx hb dX12_feed_93 rfl (lv_at hl 3 rfl) ?_
          refine fg_RX12_7 hC hw 0 rfl rfl dX12_feed_94 ?_
          refine lv_aload_n hx hb dX12_feed_97 rfl (lv_at hl 3 rfl) ?_
          refine fg_RX12_148 hC hw 0 rfl rfl dX12_feed_98 ?_
          refine lv_iload hx hb dX12_feed_101 (lv_at hl 0 rfl) ?_
          refine k_iast hC hw 1 rfl (vp_in_nI hlt (by decide)) dX12_feed_103 (fun H locs hw => ?_)
          obtain ⟨f_141, ef_141⟩ : ∃ g, g = upd f ((nI n) : Int32).toNatClampNeg x_138 := ⟨_, rfl⟩
          have hw : kW γ A [(z, .inr (11, [.int 0, .int (nI n), .ref z2, .int n3, .int n4, .int n5, .int n6, .long n7, .int n8, .int n9, .ref z10, .ref z11, .ref z12, .ref z13, .ref z14, .ref z15, .ref z16, .ref z17, .ref z18, .ref z19, .int n20, .int n21, .ref z22, .ref z23, .ref z24, .ref z25, .ref z26, .ref z27, .ref z28, .ref z29, .ref z30, .ref z31, .ref z32, .ref z33, .int n34, .long n35, .ref z36, .ref z37, .ref z38, .ref z39, .ref z40, .ref z41, .ref z42, .ref z43, .ref z44, .ref z45, .ref z46, .ref z47, .ref z48, .int n49, .int n50, .int n51, .int n52, .int n53, .int n54, .ref z55, .ref z56, .int n57, .int n58, .ref z59, .ref z60, .ref z61, .int n62, .long n63])), (z2, .inl (γ.2.1 0, 1000, .inl f_141))] s H locs := by rw [ef_141]; exact hw
          refine lv_aload_n hx hb dX12_feed_104 rfl (lv_at hl 3 rfl) ?_
          refine lv_dup hx hb dX12_feed_105 rfl ?_
          refine fg_RX12_148 hC hw 0 rfl rfl dX12_feed_106 ?_
          refine lv_iconst (v := 1) hx hb dX12_feed_109 (by decide) ?_
          refine lv_iadd hx hb dX12_feed_110 ?_
          refine lv_topi (fun x_142 ex_142 => ?_)
          obtain rfl : x_142 = (nI (n + 1)) := ex_142.trans (nI_1 n)
          refine fs_RX12_148 hC hw 0 rfl rfl rfl (Nat.le_of_ble_eq_true rfl) dX12_feed_111 (fun H locs hw => ?_)
          have hw : kW γ A [(z, .inr (11, [.int 0, .int (nI (n + 1)), .ref z2, .int n3, .int n4, .int n5, .int n6, .long n7, .int n8, .int n9, .ref z10, .ref z11, .ref z12, .ref z13, .ref z14, .ref z15, .ref z16, .ref z17, .ref z18, .ref z19, .int n20, .int n21, .ref z22, .ref z23, .ref z24, .ref z25, .ref z26, .ref z27, .ref z28, .ref z29, .ref z30, .ref z31, .ref z32, .ref z33, .int n34, .long n35, .ref z36, .ref z37, .ref z38, .ref z39, .ref z40, .ref z41, .ref z42, .ref z43, .ref z44, .ref z45, .ref z46, .ref z47, .ref z48, .int n49, .int n50, .int n51, .int n52, .int n53, .int n54, .ref z55, .ref z56, .int n57, .int n58, .ref z59, .ref z60, .ref z61, .int n62, .long n63])), (z2, .inl (γ.2.1 0, 1000, .inl f_141))] s H locs := hw
          refine lv_iinc (v := 18) (lv' := [(7, .int 18), (10, .int x_138), (8, .long vc), (0, .ref z), (1, .long va), (3, .long vb), (5, .long vc)]) hx hb dX12_feed_114 hl (k := 2) rfl (by decide) (by decide) rfl (fun ls hl => ?_)
          refine lv_goto (tgt := 8) hx hb dX12_feed_117 (by decide) ?_
          have hst : kst n (kby vc 48) = (n + 1) := by rw [← hk]; exact (by first | exact kst_full hfull | exact kst_a c76 hlt | exact kst_b c83 c90 hlt | exact kst_lo c76 c83 | exact kst_hi c76 c90)
          have hup : kup f n (kby vc 48) = f_141 := by rw [← hk, ef_141, nI_clamp (by omega)]; exact kup_y (by first | exact kok_a c76 | exact kok_b c83 c90) hlt
          exact mf_18 z z2 z10 z11 z12 z13 z14 z15 z16 z17 z18 z19 z22 z23 z24 z25 z26 z27 z28 z29 z30 z31 z32 z33 z36 z37 z38 z39 z40 z41 z42 z43 z44 z45 z46 z47 z48 z55 z56 z59 z60 z61 n3 n4 n5 n6 n7 n8 n9 n20 n21 n34 n35 n49 n50 n51 n52 n53 n54 n57 n58 n62 n63 va vb vc (n + 1) f_141 (by omega) F G (by have h9 : kad vc 6 (kst n (kby vc 48)) = F := hF; rw [hst] at h9; exact h9) (by have h9 : kfa vc 6 (kst n (kby vc 48)) (kup f n (kby vc 48)) = G := hG; rw [hst, hup] at h9; exact h9) hC hr hlocks _ _ (kW.sub hw [0, 1] rfl rfl) _ (lv_sub hl [0, 3, 4, 5, 6] rfl)

set_option maxHeartbeats 4000000 in
set_option maxRecDepth 100000 in
theorem mf_16 {γ : kΓ} {l : Launch} {p : Program} {e : Env} {s : State} {m : MethodId} {below : List Frame} {meth : Method} {c : Code} {A : Nat → Prop} (z : Nat) (z2 : Nat) (z10 : Nat) (z11 : Nat) (z12 : Nat) (z13 : Nat) (z14 : Nat) (z15 : Nat) (z16 : Nat) (z17 : Nat) (z18 : Nat) (z19 : Nat) (z22 : Nat) (z23 : Nat) (z24 : Nat) (z25 : Nat) (z26 : Nat) (z27 : Nat) (z28 : Nat) (z29 : Nat) (z30 : Nat) (z31 : Nat) (z32 : Nat) (z33 : Nat) (z36 : Nat) (z37 : Nat) (z38 : Nat) (z39 : Nat) (z40 : Nat) (z41 : Nat) (z42 : Nat) (z43 : Nat) (z44 : Nat) (z45 : Nat) (z46 : Nat) (z47 : Nat) (z48 : Nat) (z55 : Nat) (z56 : Nat) (z59 : Nat) (z60 : Nat) (z61 : Nat) (n3 : Int32) (n4 : Int32) (n5 : Int32) (n6 : Int32) (n7 : Int64) (n8 : Int32) (n9 : Int32) (n20 : Int32) (n21 : Int32) (n34 : Int32) (n35 : Int64) (n49 : Int32) (n50 : Int32) (n51 : Int32) (n52 : Int32) (n53 : Int32) (n54 : Int32) (n57 : Int32) (n58 : Int32) (n62 : Int32) (n63 : Int64) (va : Int64) (vb : Int64) (vc : Int64) (n : Nat) (f : Nat → Int32) (hn : n ≤ 1000) (F : Nat) (G : Nat → Int32) (hF : kad vc 8 n = F) (hG : kfa vc 8 n f = G) (hC : kC γ p s m [.ref z, .long va, .long vb, .long vc].toArray c cX12_feed 11 RX12 A) (hr : meth.sig.returnType = (some .int)) (hlocks : meth.locks = false) (H : Heap) (locs : List Loc) (hw : kW γ A [(z, .inr (11, [.int 0, .int (nI n), .ref z2, .int n3, .int n4, .int n5, .int n6, .long n7, .int n8, .int n9, .ref z10, .ref z11, .ref z12, .ref z13, .ref z14, .ref z15, .ref z16, .ref z17, .ref z18, .ref z19, .int n20, .int n21, .ref z22, .ref z23, .ref z24, .ref z25, .ref z26, .ref z27, .ref z28, .ref z29, .ref z30, .ref z31, .ref z32, .ref z33, .int n34, .long n35, .ref z36, .ref z37, .ref z38, .ref z39, .ref z40, .ref z41, .ref z42, .ref z43, .ref z44, .ref z45, .ref z46, .ref z47, .ref z48, .int n49, .int n50, .int n51, .int n52, .int n53, .int n54, .ref z55, .ref z56, .int n57, .int n58, .ref z59, .ref z60, .ref z61, .int n62, .long n63])), (z2, .inl (γ.2.1 0, 1000, .inl f))] s H locs) (ls : Array Slot) (hl : lv_has ls 11 [(7, .int 16), (0, .ref z), (1, .long va), (3, .long vb), (5, .long vc)]) : W p l e ({ frames := 0, cells := 0, slots := 0, locals := 0 } : Room) s m [.ref z, .long va, .long vb, .long vc].toArray below meth c H locs 0 0 (MQ below (kQ γ A (fun r w1 => r = some (.int (nI F)) ∧ w1 = [(z, .inr (11, [.int 0, .int (nI F), .ref z2, .int n3, .int n4, .int n5, .int n6, .long n7, .int n8, .int n9, .ref z10, .ref z11, .ref z12, .ref z13, .ref z14, .ref z15, .ref z16, .ref z17, .ref z18, .ref z19, .int n20, .int n21, .ref z22, .ref z23, .ref z24, .ref z25, .ref z26, .ref z27, .ref z28, .ref z29, .ref z30, .ref z31, .ref z32, .ref z33, .int n34, .long n35, .ref z36, .ref z37, .ref z38, .ref z39, .ref z40, .ref z41, .ref z42, .ref z43, .ref z44, .ref z45, .ref z46, .ref z47, .ref z48, .int n49, .int n50, .int n51, .int n52, .int n53, .int n54, .ref z55, .ref z56, .int n57, .int n58, .ref z59, .ref z60, .ref z61, .int n62, .long n63])), (z2, .inl (γ.2.1 0, 1000, .inl G))])) [.ref z, .long va, .long vb, .long vc].toArray s 0 0 A) (F0 m 8 ls []) := by
  have hx := hC.1
  have hb := hC.2.1
  refine lv_iload hx hb dX12_feed_8 (lv_at hl 0 rfl) ?_
  refine lv_bipush (v := 24) hx hb dX12_feed_10 (by decide) ?_
  refine lv_icmp_ge (tgt := 120) hx hb dX12_feed_12 (by decide) (fun h => absurd h (by decide)) (fun _ => ?_)
  refine lv_iload hx hb dX12_feed_15 (lv_at hl 0 rfl) ?_
  refine lv_bipush (v := 8) hx hb dX12_feed_17 (by decide) ?_
  refine lv_icmp_ge (tgt := 26) hx hb dX12_feed_19 (by decide) (fun _ => ?_) (fun h => absurd (by decide) h)
  refine lv_iload hx hb dX12_feed_26 (lv_at hl 0 rfl) ?_
  refine lv_bipush (v := 16) hx hb dX12_feed_28 (by decide) ?_
  refine lv_icmp_ge (tgt := 37) hx hb dX12_feed_30 (by decide) (fun _ => ?_) (fun h => absurd (by decide) h)
  refine lv_lload hx hb dX12_feed_37 (lv_at hl 4 rfl) ?_
  refine lv_lstore (lv' := [(8, .long vc), (7, .int 16), (0, .ref z), (1, .long va), (3, .long vb), (5, .long vc)]) hx hb dX12_feed_39 hl (by decide) rfl (fun ls hl => ?_)
  refine lv_lload hx hb dX12_feed_41 (lv_at hl 0 rfl) ?_
  refine lv_bipush (v := 56) hx hb dX12_feed_43 (by decide) ?_
  refine lv_bipush (v := 8) hx hb dX12_feed_45 (by decide) ?_
  refine lv_iload hx hb dX12_feed_47 (lv_at hl 1 rfl) ?_
  refine lv_bipush (v := 7) hx hb dX12_feed_49 (by decide) ?_
  refine lv_iand hx hb dX12_feed_51 ?_
  refine lv_topi (fun x_143 ex_143 => ?_)
  obtain rfl : x_143 = 0 := ex_143.trans (by decide)
  refine lv_imul hx hb dX12_feed_52 ?_
  refine lv_topi (fun x_144 ex_144 => ?_)
  obtain rfl : x_144 = 0 := ex_144.trans (by decide)
  refine lv_isub hx hb dX12_feed_53 ?_
  refine lv_topi (fun x_145 ex_145 => ?_)
  obtain rfl : x_145 = 56 := ex_145.trans (by decide)
  refine lv_lushr hx hb dX12_feed_54 rfl ?_
  refine lv_topl (fun x_146 ex_146 => ?_)
  refine k_ldc2 hC gw_1389 dX12_feed_55 ?_
  refine lv_land hx hb dX12_feed_58 ?_
  refine lv_topl (fun x_147 ex_147 => ?_)
  refine lv_l2i hx hb dX12_feed_59 rfl ?_
  refine lv_topi (fun x_148 ex_148 => ?_)
  refine lv_istore (lv' := [(10, .int x_148), (8, .long vc), (7, .int 16), (0, .ref z), (1, .long va), (3, .long vb), (5, .long vc)]) hx hb dX12_feed_60 hl (by decide) rfl (fun ls hl => ?_)
  have hk : x_148 = kby vc 56 := by rw [ex_148, ex_147, k_land, ex_146]; rfl
  refine lv_aload_n hx hb dX12_feed_62 rfl (lv_at hl 3 rfl) ?_
  refine fg_RX12_148 hC hw 0 rfl rfl dX12_feed_63 ?_
  refine lv_sipush (v := 1000) hx hb dX12_feed_66 (by decide) ?_
  refine lv_icmp_ge (tgt := 114) hx hb dX12_feed_69 (by decide) (fun c69 => ?_) (fun c69 => ?_)
  · have hfull : ¬ n < 1000 := fun h9 => absurd c69 (nI_ge h9 (by decide))
    refine lv_iinc (v := 17) (lv' := [(7, .int 17), (10, .int x_148), (8, .long vc), (0, .ref z), (1, .long va), (3, .long vb), (5, .long vc)]) hx hb dX12_feed_114 hl (k := 2) rfl (by decide) (by decide) rfl (fun ls hl => ?_)
    refine lv_goto (tgt := 8) hx hb dX12_feed_117 (by decide) ?_
    have hst : kst n (kby vc 56) = n := by rw [← hk]; exact (by first | exact kst_full hfull | exact kst_a c76 hlt | exact kst_b c83 c90 hlt | exact kst_lo c76 c83 | exact kst_hi c76 c90)
    have hup : kup f n (kby vc 56) = f := by rw [← hk]; exact (by first | exact kup_full hfull | exact kup_lo c76 c83 | exact kup_hi c76 c90)
    exact mf_17 z z2 z10 z11 z12 z13 z14 z15 z16 z17 z18 z19 z22 z23 z24 z25 z26 z27 z28 z29 z30 z31 z32 z33 z36 z37 z38 z39 z40 z41 z42 z43 z44 z45 z46 z47 z48 z55 z56 z59 z60 z61 n3 n4 n5 n6 n7 n8 n9 n20 n21 n34 n35 n49 n50 n51 n52 n53 n54 n57 n58 n62 n63 va vb vc n f (by omega) F G (by have h9 : kad vc 7 (kst n (kby vc 56)) = F := hF; rw [hst] at h9; exact h9) (by have h9 : kfa vc 7 (kst n (kby vc 56)) (kup f n (kby vc 56)) = G := hG; rw [hst, hup] at h9; exact h9) hC hr hlocks _ _ (kW.sub hw [0, 1] rfl rfl) _ (lv_sub hl [0, 3, 4, 5, 6] rfl)
  · have hlt : n < 1000 := by rcases Nat.lt_or_ge n 1000 with h9 | h9; exact h9; exact absurd (nI_le h9 (by omega)) c69
    refine lv_iload hx hb dX12_feed_72 (lv_at hl 0 rfl) ?_
    refine lv_bipush (v := 10) hx hb dX12_feed_74 (by decide) ?_
    refine lv_icmp_eq (tgt := 93) hx hb dX12_feed_76 (by decide) (fun c76 => ?_) (fun c76 => ?_)
    · refine lv_aload_n hx hb dX12_feed_93 rfl (lv_at hl 3 rfl) ?_
      refine fg_RX12_7 hC hw 0 rfl rfl dX12_feed_94 ?_
      refine lv_aload_n hx hb dX12_feed_97 rfl (lv_at hl 3 rfl) ?_
      refine fg_RX12_148 hC hw 0 rfl rfl dX12_feed_98 ?_
      refine lv_iload hx hb dX12_feed_101 (lv_at hl 0 rfl) ?_
      refine k_iast hC hw 1 rfl (vp_in_nI hlt (by decide)) dX12_feed_103 (fun H locs hw => ?_)
      obtain ⟨f_149, ef_149⟩ : ∃ g, g = upd f ((nI n) : Int32).toNatClampNeg x_148 := ⟨_, rfl⟩
      have hw : kW γ A [(z, .inr (11, [.int 0, .int (nI n), .ref z2, .int n3, .int n4, .int n5, .int n6, .long n7, .int n8, .int n9, .ref z10, .ref z11, .ref z12, .ref z13, .ref z14, .ref z15, .ref z16, .ref z17, .ref z18, .ref z19, .int n20, .int n21, .ref z22, .ref z23, .ref z24, .ref z25, .ref z26, .ref z27, .ref z28, .ref z29, .ref z30, .ref z31, .ref z32, .ref z33, .int n34, .long n35, .ref z36, .ref z37, .ref z38, .ref z39, .ref z40, .ref z41, .ref z42, .ref z43, .ref z44, .ref z45, .ref z46, .ref z47, .ref z48, .int n49, .int n50, .int n51, .int n52, .int n53, .int n54, .ref z55, .ref z56, .int n57, .int n58, .ref z59, .ref z60, .ref z61, .int n62, .long n63])), (z2, .inl (γ.2.1 0, 1000, .inl f_149))] s H locs := by rw [ef_149]; exact hw
      refine lv_aload_n hx hb dX12_feed_104 rfl (lv_at hl 3 rfl) ?_
      refine lv_dup hx hb dX12_feed_105 rfl ?_
      refine fg_RX12_148 hC hw 0 rfl rfl dX12_feed_106 ?_
      refine lv_iconst (v := 1) hx hb dX12_feed_109 (by decide) ?_
      refine lv_iadd hx hb dX12_feed_110 ?_
      refine lv_topi (fun x_150 ex_150 => ?_)
      obtain rfl : x_150 = (nI (n + 1)) := ex_150.trans (nI_1 n)
      refine fs_RX12_148 hC hw 0 rfl rfl rfl (Nat.le_of_ble_eq_true rfl) dX12_feed_111 (fun H locs hw => ?_)
      have hw : kW γ A [(z, .inr (11, [.int 0, .int (nI (n + 1)), .ref z2, .int n3, .int n4, .int n5, .int n6, .long n7, .int n8, .int n9, .ref z10, .ref z11, .ref z12, .ref z13, .ref z14, .ref z15, .ref z16, .ref z17, .ref z18, .ref z19, .int n20, .int n21, .ref z22, .ref z23, .ref z24, .ref z25, .ref z26, .ref z27, .ref z28, .ref z29, .ref z30, .ref z31, .ref z32, .ref z33, .int n34, .long n35, .ref z36, .ref z37, .ref z38, .ref z39, .ref z40, .ref z41, .ref z42, .ref z43, .ref z44, .ref z45, .ref z46, .ref z47, .ref z48, .int n49, .int n50, .int n51, .int n52, .int n53, .int n54, .ref z55, .ref z56, .int n57, .int n58, .ref z59, .ref z60, .ref z61, .int n62, .long n63])), (z2, .inl (γ.2.1 0, 1000, .inl f_149))] s H locs := hw
      refine lv_iinc (v := 17) (lv' := [(7, .int 17), (10, .int x_148), (8, .long vc), (0, .ref z), (1, .long va), (3, .long vb), (5, .long vc)]) hx hb dX12_feed_114 hl (k := 2) rfl (by decide) (by decide) rfl (fun ls hl => ?_)
      refine lv_goto (tgt := 8) hx hb dX12_feed_117 (by decide) ?_
      have hst : kst n (kby vc 56) = (n + 1) := by rw [← hk]; exact (by first | exact kst_full hfull | exact kst_a c76 hlt | exact kst_b c83 c90 hlt | exact kst_lo c76 c83 | exact kst_hi c76 c90)
      have hup : kup f n (kby vc 56) = f_149 := by rw [← hk, ef_149, nI_clamp (by omega)]; exact kup_y (by first | exact kok_a c76 | exact kok_b c83 c90) hlt
      exact mf_17 z z2 z10 z11 z12 z13 z14 z15 z16 z17 z18 z19 z22 z23 z24 z25 z26 z27 z28 z29 z30 z31 z32 z33 z36 z37 z38 z39 z40 z41 z42 z43 z44 z45 z46 z47 z48 z55 z56 z59 z60 z61 n3 n4 n5 n6 n7 n8 n9 n20 n21 n34 n35 n49 n50 n51 n52 n53 n54 n57 n58 n62 n63 va vb vc (n + 1) f_149 (by omega) F G (by have h9 : kad vc 7 (kst n (kby vc 56)) = F := hF; rw [hst] at h9; exact h9) (by have h9 : kfa vc 7 (kst n (kby vc 56)) (kup f n (kby vc 56)) = G := hG; rw [hst, hup] at h9; exact h9) hC hr hlocks _ _ (kW.sub hw [0, 1] rfl rfl) _ (lv_sub hl [0, 3, 4, 5, 6] rfl)
    · refine lv_iload hx hb dX12_feed_79 (lv_at hl 0 rfl) ?_
      refine lv_bipush (v := 32) hx hb dX12_feed_81 (by decide) ?_
      refine lv_icmp_lt (tgt := 114) hx hb dX12_feed_83 (by decide) (fun c83 => ?_) (fun c83 => ?_)
      · refine lv_iinc (v := 17) (lv' := [(7, .int 17), (10, .int x_148), (8, .long vc), (0, .ref z), (1, .long va), (3, .long vb), (5, .long vc)]) hx hb dX12_feed_114 hl (k := 2) rfl (by decide) (by decide) rfl (fun ls hl => ?_)
        refine lv_goto (tgt := 8) hx hb dX12_feed_117 (by decide) ?_
        have hst : kst n (kby vc 56) = n := by rw [← hk]; exact (by first | exact kst_full hfull | exact kst_a c76 hlt | exact kst_b c83 c90 hlt | exact kst_lo c76 c83 | exact kst_hi c76 c90)
        have hup : kup f n (kby vc 56) = f := by rw [← hk]; exact (by first | exact kup_full hfull | exact kup_lo c76 c83 | exact kup_hi c76 c90)
        exact mf_17 z z2 z10 z11 z12 z13 z14 z15 z16 z17 z18 z19 z22 z23 z24 z25 z26 z27 z28 z29 z30 z31 z32 z33 z36 z37 z38 z39 z40 z41 z42 z43 z44 z45 z46 z47 z48 z55 z56 z59 z60 z61 n3 n4 n5 n6 n7 n8 n9 n20 n21 n34 n35 n49 n50 n51 n52 n53 n54 n57 n58 n62 n63 va vb vc n f (by omega) F G (by have h9 : kad vc 7 (kst n (kby vc 56)) = F := hF; rw [hst] at h9; exact h9) (by have h9 : kfa vc 7 (kst n (kby vc 56)) (kup f n (kby vc 56)) = G := hG; rw [hst, hup] at h9; exact h9) hC hr hlocks _ _ (kW.sub hw [0, 1] rfl rfl) _ (lv_sub hl [0, 3, 4, 5, 6] rfl)
      · refine lv_iload hx hb dX12_feed_86 (lv_at hl 0 rfl) ?_
        refine lv_bipush (v := 126) hx hb dX12_feed_88 (by decide) ?_
        refine lv_icmp_gt (tgt := 114) hx hb dX12_feed_90 (by decide) (fun c90 => ?_) (fun c90 => ?_)
        · refine lv_iinc (v := 17) (lv' := [(7, .int 17), (10, .int x_148), (8, .long vc), (0, .ref z), (1, .long va), (3, .long vb), (5, .long vc)]) hx hb dX12_feed_114 hl (k := 2) rfl (by decide) (by decide) rfl (fun ls hl => ?_)
          refine lv_goto (tgt := 8) hx hb dX12_feed_117 (by decide) ?_
          have hst : kst n (kby vc 56) = n := by rw [← hk]; exact (by first | exact kst_full hfull | exact kst_a c76 hlt | exact kst_b c83 c90 hlt | exact kst_lo c76 c83 | exact kst_hi c76 c90)
          have hup : kup f n (kby vc 56) = f := by rw [← hk]; exact (by first | exact kup_full hfull | exact kup_lo c76 c83 | exact kup_hi c76 c90)
          exact mf_17 z z2 z10 z11 z12 z13 z14 z15 z16 z17 z18 z19 z22 z23 z24 z25 z26 z27 z28 z29 z30 z31 z32 z33 z36 z37 z38 z39 z40 z41 z42 z43 z44 z45 z46 z47 z48 z55 z56 z59 z60 z61 n3 n4 n5 n6 n7 n8 n9 n20 n21 n34 n35 n49 n50 n51 n52 n53 n54 n57 n58 n62 n63 va vb vc n f (by omega) F G (by have h9 : kad vc 7 (kst n (kby vc 56)) = F := hF; rw [hst] at h9; exact h9) (by have h9 : kfa vc 7 (kst n (kby vc 56)) (kup f n (kby vc 56)) = G := hG; rw [hst, hup] at h9; exact h9) hC hr hlocks _ _ (kW.sub hw [0, 1] rfl rfl) _ (lv_sub hl [0, 3, 4, 5, 6] rfl)
        · refine lv_aload_n hx hb dX12_feed_93 rfl (lv_at hl 3 rfl) ?_
          refine fg_RX12_7 hC hw 0 rfl rfl dX12_feed_94 ?_
          refine lv_aload_n hx hb dX12_feed_97 rfl (lv_at hl 3 rfl) ?_
          refine fg_RX12_148 hC hw 0 rfl rfl dX12_feed_98 ?_
          refine lv_iload hx hb dX12_feed_101 (lv_at hl 0 rfl) ?_
          refine k_iast hC hw 1 rfl (vp_in_nI hlt (by decide)) dX12_feed_103 (fun H locs hw => ?_)
          obtain ⟨f_151, ef_151⟩ : ∃ g, g = upd f ((nI n) : Int32).toNatClampNeg x_148 := ⟨_, rfl⟩
          have hw : kW γ A [(z, .inr (11, [.int 0, .int (nI n), .ref z2, .int n3, .int n4, .int n5, .int n6, .long n7, .int n8, .int n9, .ref z10, .ref z11, .ref z12, .ref z13, .ref z14, .ref z15, .ref z16, .ref z17, .ref z18, .ref z19, .int n20, .int n21, .ref z22, .ref z23, .ref z24, .ref z25, .ref z26, .ref z27, .ref z28, .ref z29, .ref z30, .ref z31, .ref z32, .ref z33, .int n34, .long n35, .ref z36, .ref z37, .ref z38, .ref z39, .ref z40, .ref z41, .ref z42, .ref z43, .ref z44, .ref z45, .ref z46, .ref z47, .ref z48, .int n49, .int n50, .int n51, .int n52, .int n53, .int n54, .ref z55, .ref z56, .int n57, .int n58, .ref z59, .ref z60, .ref z61, .int n62, .long n63])), (z2, .inl (γ.2.1 0, 1000, .inl f_151))] s H locs := by rw [ef_151]; exact hw
          refine lv_aload_n hx hb dX12_feed_104 rfl (lv_at hl 3 rfl) ?_
          refine lv_dup hx hb dX12_feed_105 rfl ?_
          refine fg_RX12_148 hC hw 0 rfl rfl dX12_feed_106 ?_
          refine lv_iconst (v := 1) hx hb dX12_feed_109 (by decide) ?_
          refine lv_iadd hx hb dX12_feed_110 ?_
          refine lv_topi (fun x_152 ex_152 => ?_)
          obtain rfl : x_152 = (nI (n + 1)) := ex_152.trans (nI_1 n)
          refine fs_RX12_148 hC hw 0 rfl rfl rfl (Nat.le_of_ble_eq_true rfl) dX12_feed_111 (fun H locs hw => ?_)
          have hw : kW γ A [(z, .inr (11, [.int 0, .int (nI (n + 1)), .ref z2, .int n3, .int n4, .int n5, .int n6, .long n7, .int n8, .int n9, .ref z10, .ref z11, .ref z12, .ref z13, .ref z14, .ref z15, .ref z16, .ref z17, .ref z18, .ref z19, .int n20, .int n21, .ref z22, .ref z23, .ref z24, .ref z25, .ref z26, .ref z27, .ref z28, .ref z29, .ref z30, .ref z31, .ref z32, .ref z33, .int n34, .long n35, .ref z36, .ref z37, .ref z38, .ref z39, .ref z40, .ref z41, .ref z42, .ref z43, .ref z44, .ref z45, .ref z46, .ref z47, .ref z48, .int n49, .int n50, .int n51, .int n52, .int n53, .int n54, .ref z55, .ref z56, .int n57, .int n58, .ref z59, .ref z60, .ref z61, .int n62, .long n63])), (z2, .inl (γ.2.1 0, 1000, .inl f_151))] s H locs := hw
          refine lv_iinc (v := 17) (lv' := [(7, .int 17), (10, .int x_148), (8, .long vc), (0, .ref z), (1, .long va), (3, .long vb), (5, .long vc)]) hx hb dX12_feed_114 hl (k := 2) rfl (by decide) (by decide) rfl (fun ls hl => ?_)
          refine lv_goto (tgt := 8) hx hb dX12_feed_117 (by decide) ?_
          have hst : kst n (kby vc 56) = (n + 1) := by rw [← hk]; exact (by first | exact kst_full hfull | exact kst_a c76 hlt | exact kst_b c83 c90 hlt | exact kst_lo c76 c83 | exact kst_hi c76 c90)
          have hup : kup f n (kby vc 56) = f_151 := by rw [← hk, ef_151, nI_clamp (by omega)]; exact kup_y (by first | exact kok_a c76 | exact kok_b c83 c90) hlt
          exact mf_17 z z2 z10 z11 z12 z13 z14 z15 z16 z17 z18 z19 z22 z23 z24 z25 z26 z27 z28 z29 z30 z31 z32 z33 z36 z37 z38 z39 z40 z41 z42 z43 z44 z45 z46 z47 z48 z55 z56 z59 z60 z61 n3 n4 n5 n6 n7 n8 n9 n20 n21 n34 n35 n49 n50 n51 n52 n53 n54 n57 n58 n62 n63 va vb vc (n + 1) f_151 (by omega) F G (by have h9 : kad vc 7 (kst n (kby vc 56)) = F := hF; rw [hst] at h9; exact h9) (by have h9 : kfa vc 7 (kst n (kby vc 56)) (kup f n (kby vc 56)) = G := hG; rw [hst, hup] at h9; exact h9) hC hr hlocks _ _ (kW.sub hw [0, 1] rfl rfl) _ (lv_sub hl [0, 3, 4, 5, 6] rfl)

set_option maxHeartbeats 4000000 in
set_option maxRecDepth 100000 in
theorem mf_15 {γ : kΓ} {l : Launch} {p : Program} {e : Env} {s : State} {m : MethodId} {below : List Frame} {meth : Method} {c : Code} {A : Nat → Prop} (z : Nat) (z2 : Nat) (z10 : Nat) (z11 : Nat) (z12 : Nat) (z13 : Nat) (z14 : Nat) (z15 : Nat) (z16 : Nat) (z17 : Nat) (z18 : Nat) (z19 : Nat) (z22 : Nat) (z23 : Nat) (z24 : Nat) (z25 : Nat) (z26 : Nat) (z27 : Nat) (z28 : Nat) (z29 : Nat) (z30 : Nat) (z31 : Nat) (z32 : Nat) (z33 : Nat) (z36 : Nat) (z37 : Nat) (z38 : Nat) (z39 : Nat) (z40 : Nat) (z41 : Nat) (z42 : Nat) (z43 : Nat) (z44 : Nat) (z45 : Nat) (z46 : Nat) (z47 : Nat) (z48 : Nat) (z55 : Nat) (z56 : Nat) (z59 : Nat) (z60 : Nat) (z61 : Nat) (n3 : Int32) (n4 : Int32) (n5 : Int32) (n6 : Int32) (n7 : Int64) (n8 : Int32) (n9 : Int32) (n20 : Int32) (n21 : Int32) (n34 : Int32) (n35 : Int64) (n49 : Int32) (n50 : Int32) (n51 : Int32) (n52 : Int32) (n53 : Int32) (n54 : Int32) (n57 : Int32) (n58 : Int32) (n62 : Int32) (n63 : Int64) (va : Int64) (vb : Int64) (vc : Int64) (n : Nat) (f : Nat → Int32) (hn : n ≤ 1000) (F : Nat) (G : Nat → Int32) (hF : kad vc 8 (kad vb 1 n) = F) (hG : kfa vc 8 (kad vb 1 n) (kfa vb 1 n f) = G) (hC : kC γ p s m [.ref z, .long va, .long vb, .long vc].toArray c cX12_feed 11 RX12 A) (hr : meth.sig.returnType = (some .int)) (hlocks : meth.locks = false) (H : Heap) (locs : List Loc) (hw : kW γ A [(z, .inr (11, [.int 0, .int (nI n), .ref z2, .int n3, .int n4, .int n5, .int n6, .long n7, .int n8, .int n9, .ref z10, .ref z11, .ref z12, .ref z13, .ref z14, .ref z15, .ref z16, .ref z17, .ref z18, .ref z19, .int n20, .int n21, .ref z22, .ref z23, .ref z24, .ref z25, .ref z26, .ref z27, .ref z28, .ref z29, .ref z30, .ref z31, .ref z32, .ref z33, .int n34, .long n35, .ref z36, .ref z37, .ref z38, .ref z39, .ref z40, .ref z41, .ref z42, .ref z43, .ref z44, .ref z45, .ref z46, .ref z47, .ref z48, .int n49, .int n50, .int n51, .int n52, .int n53, .int n54, .ref z55, .ref z56, .int n57, .int n58, .ref z59, .ref z60, .ref z61, .int n62, .long n63])), (z2, .inl (γ.2.1 0, 1000, .inl f))] s H locs) (ls : Array Slot) (hl : lv_has ls 11 [(7, .int 15), (0, .ref z), (1, .long va), (3, .long vb), (5, .long vc)]) : W p l e ({ frames := 0, cells := 0, slots := 0, locals := 0 } : Room) s m [.ref z, .long va, .long vb, .long vc].toArray below meth c H locs 0 0 (MQ below (kQ γ A (fun r w1 => r = some (.int (nI F)) ∧ w1 = [(z, .inr (11, [.int 0, .int (nI F), .ref z2, .int n3, .int n4, .int n5, .int n6, .long n7, .int n8, .int n9, .ref z10, .ref z11, .ref z12, .ref z13, .ref z14, .ref z15, .ref z16, .ref z17, .ref z18, .ref z19, .int n20, .int n21, .ref z22, .ref z23, .ref z24, .ref z25, .ref z26, .ref z27, .ref z28, .ref z29, .ref z30, .ref z31, .ref z32, .ref z33, .int n34, .long n35, .ref z36, .ref z37, .ref z38, .ref z39, .ref z40, .ref z41, .ref z42, .ref z43, .ref z44, .ref z45, .ref z46, .ref z47, .ref z48, .int n49, .int n50, .int n51, .int n52, .int n53, .int n54, .ref z55, .ref z56, .int n57, .int n58, .ref z59, .ref z60, .ref z61, .int n62, .long n63])), (z2, .inl (γ.2.1 0, 1000, .inl G))])) [.ref z, .long va, .long vb, .long vc].toArray s 0 0 A) (F0 m 8 ls []) := by
  have hx := hC.1
  have hb := hC.2.1
  refine lv_iload hx hb dX12_feed_8 (lv_at hl 0 rfl) ?_
  refine lv_bipush (v := 24) hx hb dX12_feed_10 (by decide) ?_
  refine lv_icmp_ge (tgt := 120) hx hb dX12_feed_12 (by decide) (fun h => absurd h (by decide)) (fun _ => ?_)
  refine lv_iload hx hb dX12_feed_15 (lv_at hl 0 rfl) ?_
  refine lv_bipush (v := 8) hx hb dX12_feed_17 (by decide) ?_
  refine lv_icmp_ge (tgt := 26) hx hb dX12_feed_19 (by decide) (fun _ => ?_) (fun h => absurd (by decide) h)
  refine lv_iload hx hb dX12_feed_26 (lv_at hl 0 rfl) ?_
  refine lv_bipush (v := 16) hx hb dX12_feed_28 (by decide) ?_
  refine lv_icmp_ge (tgt := 37) hx hb dX12_feed_30 (by decide) (fun h => absurd h (by decide)) (fun _ => ?_)
  refine lv_lload_n hx hb dX12_feed_33 rfl (lv_at hl 3 rfl) ?_
  refine lv_goto (tgt := 39) hx hb dX12_feed_34 (by decide) ?_
  refine lv_lstore (lv' := [(8, .long vb), (7, .int 15), (0, .ref z), (1, .long va), (3, .long vb), (5, .long vc)]) hx hb dX12_feed_39 hl (by decide) rfl (fun ls hl => ?_)
  refine lv_lload hx hb dX12_feed_41 (lv_at hl 0 rfl) ?_
  refine lv_bipush (v := 56) hx hb dX12_feed_43 (by decide) ?_
  refine lv_bipush (v := 8) hx hb dX12_feed_45 (by decide) ?_
  refine lv_iload hx hb dX12_feed_47 (lv_at hl 1 rfl) ?_
  refine lv_bipush (v := 7) hx hb dX12_feed_49 (by decide) ?_
  refine lv_iand hx hb dX12_feed_51 ?_
  refine lv_topi (fun x_153 ex_153 => ?_)
  obtain rfl : x_153 = 7 := ex_153.trans (by decide)
  refine lv_imul hx hb dX12_feed_52 ?_
  refine lv_topi (fun x_154 ex_154 => ?_)
  obtain rfl : x_154 = 56 := ex_154.trans (by decide)
  refine lv_isub hx hb dX12_feed_53 ?_
  refine lv_topi (fun x_155 ex_155 => ?_)
  obtain rfl : x_155 = 0 := ex_155.trans (by decide)
  refine lv_lushr hx hb dX12_feed_54 rfl ?_
  refine lv_topl (fun x_156 ex_156 => ?_)
  refine k_ldc2 hC gw_1389 dX12_feed_55 ?_
  refine lv_land hx hb dX12_feed_58 ?_
  refine lv_topl (fun x_157 ex_157 => ?_)
  refine lv_l2i hx hb dX12_feed_59 rfl ?_
  refine lv_topi (fun x_158 ex_158 => ?_)
  refine lv_istore (lv' := [(10, .int x_158), (8, .long vb), (7, .int 15), (0, .ref z), (1, .long va), (3, .long vb), (5, .long vc)]) hx hb dX12_feed_60 hl (by decide) rfl (fun ls hl => ?_)
  have hk : x_158 = kby vb 0 := by rw [ex_158, ex_157, k_land, ex_156]; rfl
  refine lv_aload_n hx hb dX12_feed_62 rfl (lv_at hl 3 rfl) ?_
  refine fg_RX12_148 hC hw 0 rfl rfl dX12_feed_63 ?_
  refine lv_sipush (v := 1000) hx hb dX12_feed_66 (by decide) ?_
  refine lv_icmp_ge (tgt := 114) hx hb dX12_feed_69 (by decide) (fun c69 => ?_) (fun c69 => ?_)
  · have hfull : ¬ n < 1000 := fun h9 => absurd c69 (nI_ge h9 (by decide))
    refine lv_iinc (v := 16) (lv' := [(7, .int 16), (10, .int x_158), (8, .long vb), (0, .ref z), (1, .long va), (3, .long vb), (5, .long vc)]) hx hb dX12_feed_114 hl (k := 2) rfl (by decide) (by decide) rfl (fun ls hl => ?_)
    refine lv_goto (tgt := 8) hx hb dX12_feed_117 (by decide) ?_
    have hst : kst n (kby vb 0) = n := by rw [← hk]; exact (by first | exact kst_full hfull | exact kst_a c76 hlt | exact kst_b c83 c90 hlt | exact kst_lo c76 c83 | exact kst_hi c76 c90)
    have hup : kup f n (kby vb 0) = f := by rw [← hk]; exact (by first | exact kup_full hfull | exact kup_lo c76 c83 | exact kup_hi c76 c90)
    exact mf_16 z z2 z10 z11 z12 z13 z14 z15 z16 z17 z18 z19 z22 z23 z24 z25 z26 z27 z28 z29 z30 z31 z32 z33 z36 z37 z38 z39 z40 z41 z42 z43 z44 z45 z46 z47 z48 z55 z56 z59 z60 z61 n3 n4 n5 n6 n7 n8 n9 n20 n21 n34 n35 n49 n50 n51 n52 n53 n54 n57 n58 n62 n63 va vb vc n f (by omega) F G (by have h9 : kad vc 8 (kst n (kby vb 0)) = F := hF; rw [hst] at h9; exact h9) (by have h9 : kfa vc 8 (kst n (kby vb 0)) (kup f n (kby vb 0)) = G := hG; rw [hst, hup] at h9; exact h9) hC hr hlocks _ _ (kW.sub hw [0, 1] rfl rfl) _ (lv_sub hl [0, 3, 4, 5, 6] rfl)
  · have hlt : n < 1000 := by rcases Nat.lt_or_ge n 1000 with h9 | h9; exact h9; exact absurd (nI_le h9 (by omega)) c69
    refine lv_iload hx hb dX12_feed_72 (lv_at hl 0 rfl) ?_
    refine lv_bipush (v := 10) hx hb dX12_feed_74 (by decide) ?_
    refine lv_icmp_eq (tgt := 93) hx hb dX12_feed_76 (by decide) (fun c76 => ?_) (fun c76 => ?_)
    · refine lv_aload_n hx hb dX12_feed_93 rfl (lv_at hl 3 rfl) ?_
      refine fg_RX12_7 hC hw 0 rfl rfl dX12_feed_94 ?_
      refine lv_aload_n hx hb dX12_feed_97 rfl (lv_at hl 3 rfl) ?_
      refine fg_RX12_148 hC hw 0 rfl rfl dX12_feed_98 ?_
      refine lv_iload hx hb dX12_feed_101 (lv_at hl 0 rfl) ?_
      refine k_iast hC hw 1 rfl (vp_in_nI hlt (by decide)) dX12_feed_103 (fun H locs hw => ?_)
      obtain ⟨f_159, ef_159⟩ : ∃ g, g = upd f ((nI n) : Int32).toNatClampNeg x_158 := ⟨_, rfl⟩
      have hw : kW γ A [(z, .inr (11, [.int 0, .int (nI n), .ref z2, .int n3, .int n4, .int n5, .int n6, .long n7, .int n8, .int n9, .ref z10, .ref z11, .ref z12, .ref z13, .ref z14, .ref z15, .ref z16, .ref z17, .ref z18, .ref z19, .int n20, .int n21, .ref z22, .ref z23, .ref z24, .ref z25, .ref z26, .ref z27, .ref z28, .ref z29, .ref z30, .ref z31, .ref z32, .ref z33, .int n34, .long n35, .ref z36, .ref z37, .ref z38, .ref z39, .ref z40, .ref z41, .ref z42, .ref z43, .ref z44, .ref z45, .ref z46, .ref z47, .ref z48, .int n49, .int n50, .int n51, .int n52, .int n53, .int n54, .ref z55, .ref z56, .int n57, .int n58, .ref z59, .ref z60, .ref z61, .int n62, .long n63])), (z2, .inl (γ.2.1 0, 1000, .inl f_159))] s H locs := by rw [ef_159]; exact hw
      refine lv_aload_n hx hb dX12_feed_104 rfl (lv_at hl 3 rfl) ?_
      refine lv_dup hx hb dX12_feed_105 rfl ?_
      refine fg_RX12_148 hC hw 0 rfl rfl dX12_feed_106 ?_
      refine lv_iconst (v := 1) hx hb dX12_feed_109 (by decide) ?_
      refine lv_iadd hx hb dX12_feed_110 ?_
      refine lv_topi (fun x_160 ex_160 => ?_)
      obtain rfl : x_160 = (nI (n + 1)) := ex_160.trans (nI_1 n)
      refine fs_RX12_148 hC hw 0 rfl rfl rfl (Nat.le_of_ble_eq_true rfl) dX12_feed_111 (fun H locs hw => ?_)
      have hw : kW γ A [(z, .inr (11, [.int 0, .int (nI (n + 1)), .ref z2, .int n3, .int n4, .int n5, .int n6, .long n7, .int n8, .int n9, .ref z10, .ref z11, .ref z12, .ref z13, .ref z14, .ref z15, .ref z16, .ref z17, .ref z18, .ref z19, .int n20, .int n21, .ref z22, .ref z23, .ref z24, .ref z25, .ref z26, .ref z27, .ref z28, .ref z29, .ref z30, .ref z31, .ref z32, .ref z33, .int n34, .long n35, .ref z36, .ref z37, .ref z38, .ref z39, .ref z40, .ref z41, .ref z42, .ref z43, .ref z44, .ref z45, .ref z46, .ref z47, .ref z48, .int n49, .int n50, .int n51, .int n52, .int n53, .int n54, .ref z55, .ref z56, .int n57, .int n58, .ref z59, .ref z60, .ref z61, .int n62, .long n63])), (z2, .inl (γ.2.1 0, 1000, .inl f_159))] s H locs := hw
      refine lv_iinc (v := 16) (lv' := [(7, .int 16), (10, .int x_158), (8, .long vb), (0, .ref z), (1, .long va), (3, .long vb), (5, .long vc)]) hx hb dX12_feed_114 hl (k := 2) rfl (by decide) (by decide) rfl (fun ls hl => ?_)
      refine lv_goto (tgt := 8) hx hb dX12_feed_117 (by decide) ?_
      have hst : kst n (kby vb 0) = (n + 1) := by rw [← hk]; exact (by first | exact kst_full hfull | exact kst_a c76 hlt | exact kst_b c83 c90 hlt | exact kst_lo c76 c83 | exact kst_hi c76 c90)
      have hup : kup f n (kby vb 0) = f_159 := by rw [← hk, ef_159, nI_clamp (by omega)]; exact kup_y (by first | exact kok_a c76 | exact kok_b c83 c90) hlt
      exact mf_16 z z2 z10 z11 z12 z13 z14 z15 z16 z17 z18 z19 z22 z23 z24 z25 z26 z27 z28 z29 z30 z31 z32 z33 z36 z37 z38 z39 z40 z41 z42 z43 z44 z45 z46 z47 z48 z55 z56 z59 z60 z61 n3 n4 n5 n6 n7 n8 n9 n20 n21 n34 n35 n49 n50 n51 n52 n53 n54 n57 n58 n62 n63 va vb vc (n + 1) f_159 (by omega) F G (by have h9 : kad vc 8 (kst n (kby vb 0)) = F := hF; rw [hst] at h9; exact h9) (by have h9 : kfa vc 8 (kst n (kby vb 0)) (kup f n (kby vb 0)) = G := hG; rw [hst, hup] at h9; exact h9) hC hr hlocks _ _ (kW.sub hw [0, 1] rfl rfl) _ (lv_sub hl [0, 3, 4, 5, 6] rfl)
    · refine lv_iload hx hb dX12_feed_79 (lv_at hl 0 rfl) ?_
      refine lv_bipush (v := 32) hx hb dX12_feed_81 (by decide) ?_
      refine lv_icmp_lt (tgt := 114) hx hb dX12_feed_83 (by decide) (fun c83 => ?_) (fun c83 => ?_)
      · refine lv_iinc (v := 16) (lv' := [(7, .int 16), (10, .int x_158), (8, .long vb), (0, .ref z), (1, .long va), (3, .long vb), (5, .long vc)]) hx hb dX12_feed_114 hl (k := 2) rfl (by decide) (by decide) rfl (fun ls hl => ?_)
        refine lv_goto (tgt := 8) hx hb dX12_feed_117 (by decide) ?_
        have hst : kst n (kby vb 0) = n := by rw [← hk]; exact (by first | exact kst_full hfull | exact kst_a c76 hlt | exact kst_b c83 c90 hlt | exact kst_lo c76 c83 | exact kst_hi c76 c90)
        have hup : kup f n (kby vb 0) = f := by rw [← hk]; exact (by first | exact kup_full hfull | exact kup_lo c76 c83 | exact kup_hi c76 c90)
        exact mf_16 z z2 z10 z11 z12 z13 z14 z15 z16 z17 z18 z19 z22 z23 z24 z25 z26 z27 z28 z29 z30 z31 z32 z33 z36 z37 z38 z39 z40 z41 z42 z43 z44 z45 z46 z47 z48 z55 z56 z59 z60 z61 n3 n4 n5 n6 n7 n8 n9 n20 n21 n34 n35 n49 n50 n51 n52 n53 n54 n57 n58 n62 n63 va vb vc n f (by omega) F G (by have h9 : kad vc 8 (kst n (kby vb 0)) = F := hF; rw [hst] at h9; exact h9) (by have h9 : kfa vc 8 (kst n (kby vb 0)) (kup f n (kby vb 0)) = G := hG; rw [hst, hup] at h9; exact h9) hC hr hlocks _ _ (kW.sub hw [0, 1] rfl rfl) _ (lv_sub hl [0, 3, 4, 5, 6] rfl)
      · refine lv_iload hx hb dX12_feed_86 (lv_at hl 0 rfl) ?_
        refine lv_bipush (v := 126) hx hb dX12_feed_88 (by decide) ?_
        refine lv_icmp_gt (tgt := 114) hx hb dX12_feed_90 (by decide) (fun c90 => ?_) (fun c90 => ?_)
        · refine lv_iinc (v := 16) (lv' := [(7, .int 16), (10, .int x_158), (8, .long vb), (0, .ref z), (1, .long va), (3, .long vb), (5, .long vc)]) hx hb dX12_feed_114 hl (k := 2) rfl (by decide) (by decide) rfl (fun ls hl => ?_)
          refine lv_goto (tgt := 8) hx hb dX12_feed_117 (by decide) ?_
          have hst : kst n (kby vb 0) = n := by rw [← hk]; exact (by first | exact kst_full hfull | exact kst_a c76 hlt | exact kst_b c83 c90 hlt | exact kst_lo c76 c83 | exact kst_hi c76 c90)
          have hup : kup f n (kby vb 0) = f := by rw [← hk]; exact (by first | exact kup_full hfull | exact kup_lo c76 c83 | exact kup_hi c76 c90)
          exact mf_16 z z2 z10 z11 z12 z13 z14 z15 z16 z17 z18 z19 z22 z23 z24 z25 z26 z27 z28 z29 z30 z31 z32 z33 z36 z37 z38 z39 z40 z41 z42 z43 z44 z45 z46 z47 z48 z55 z56 z59 z60 z61 n3 n4 n5 n6 n7 n8 n9 n20 n21 n34 n35 n49 n50 n51 n52 n53 n54 n57 n58 n62 n63 va vb vc n f (by omega) F G (by have h9 : kad vc 8 (kst n (kby vb 0)) = F := hF; rw [hst] at h9; exact h9) (by have h9 : kfa vc 8 (kst n (kby vb 0)) (kup f n (kby vb 0)) = G := hG; rw [hst, hup] at h9; exact h9) hC hr hlocks _ _ (kW.sub hw [0, 1] rfl rfl) _ (lv_sub hl [0, 3, 4, 5, 6] rfl)
        · refine lv_aload_n hx hb dX12_feed_93 rfl (lv_at hl 3 rfl) ?_
          refine fg_RX12_7 hC hw 0 rfl rfl dX12_feed_94 ?_
          refine lv_aload_n hx hb dX12_feed_97 rfl (lv_at hl 3 rfl) ?_
          refine fg_RX12_148 hC hw 0 rfl rfl dX12_feed_98 ?_
          refine lv_iload hx hb dX12_feed_101 (lv_at hl 0 rfl) ?_
          refine k_iast hC hw 1 rfl (vp_in_nI hlt (by decide)) dX12_feed_103 (fun H locs hw => ?_)
          obtain ⟨f_161, ef_161⟩ : ∃ g, g = upd f ((nI n) : Int32).toNatClampNeg x_158 := ⟨_, rfl⟩
          have hw : kW γ A [(z, .inr (11, [.int 0, .int (nI n), .ref z2, .int n3, .int n4, .int n5, .int n6, .long n7, .int n8, .int n9, .ref z10, .ref z11, .ref z12, .ref z13, .ref z14, .ref z15, .ref z16, .ref z17, .ref z18, .ref z19, .int n20, .int n21, .ref z22, .ref z23, .ref z24, .ref z25, .ref z26, .ref z27, .ref z28, .ref z29, .ref z30, .ref z31, .ref z32, .ref z33, .int n34, .long n35, .ref z36, .ref z37, .ref z38, .ref z39, .ref z40, .ref z41, .ref z42, .ref z43, .ref z44, .ref z45, .ref z46, .ref z47, .ref z48, .int n49, .int n50, .int n51, .int n52, .int n53, .int n54, .ref z55, .ref z56, .int n57, .int n58, .ref z59, .ref z60, .ref z61, .int n62, .long n63])), (z2, .inl (γ.2.1 0, 1000, .inl f_161))] s H locs := by rw [ef_161]; exact hw
          refine lv_aload_n hx hb dX12_feed_104 rfl (lv_at hl 3 rfl) ?_
          refine lv_dup hx hb dX12_feed_105 rfl ?_
          refine fg_RX12_148 hC hw 0 rfl rfl dX12_feed_106 ?_
          refine lv_iconst (v := 1) hx hb dX12_feed_109 (by decide) ?_
          refine lv_iadd hx hb dX12_feed_110 ?_
          refine lv_topi (fun x_162 ex_162 => ?_)
          obtain rfl : x_162 = (nI (n + 1)) := ex_162.trans (nI_1 n)
          refine fs_RX12_148 hC hw 0 rfl rfl rfl (Nat.le_of_ble_eq_true rfl) dX12_feed_111 (fun H locs hw => ?_)
          have hw : kW γ A [(z, .inr (11, [.int 0, .int (nI (n + 1)), .ref z2, .int n3, .int n4, .int n5, .int n6, .long n7, .int n8, .int n9, .ref z10, .ref z11, .ref z12, .ref z13, .ref z14, .ref z15, .ref z16, .ref z17, .ref z18, .ref z19, .int n20, .int n21, .ref z22, .ref z23, .ref z24, .ref z25, .ref z26, .ref z27, .ref z28, .ref z29, .ref z30, .ref z31, .ref z32, .ref z33, .int n34, .long n35, .ref z36, .ref z37, .ref z38, .ref z39, .ref z40, .ref z41, .ref z42, .ref z43, .ref z44, .ref z45, .ref z46, .ref z47, .ref z48, .int n49, .int n50, .int n51, .int n52, .int n53, .int n54, .ref z55, .ref z56, .int n57, .int n58, .ref z59, .ref z60, .ref z61, .int n62, .long n63])), (z2, .inl (γ.2.1 0, 1000, .inl f_161))] s H locs := hw
          refine lv_iinc (v := 16) (lv' := [(7, .int 16), (10, .int x_158), (8, .long vb), (0, .ref z), (1, .long va), (3, .long vb), (5, .long vc)]) hx hb dX12_feed_114 hl (k := 2) rfl (by decide) (by decide) rfl (fun ls hl => ?_)
          refine lv_goto (tgt := 8) hx hb dX12_feed_117 (by decide) ?_
          have hst : kst n (kby vb 0) = (n + 1) := by rw [← hk]; exact (by first | exact kst_full hfull | exact kst_a c76 hlt | exact kst_b c83 c90 hlt | exact kst_lo c76 c83 | exact kst_hi c76 c90)
          have hup : kup f n (kby vb 0) = f_161 := by rw [← hk, ef_161, nI_clamp (by omega)]; exact kup_y (by first | exact kok_a c76 | exact kok_b c83 c90) hlt
          exact mf_16 z z2 z10 z11 z12 z13 z14 z15 z16 z17 z18 z19 z22 z23 z24 z25 z26 z27 z28 z29 z30 z31 z32 z33 z36 z37 z38 z39 z40 z41 z42 z43 z44 z45 z46 z47 z48 z55 z56 z59 z60 z61 n3 n4 n5 n6 n7 n8 n9 n20 n21 n34 n35 n49 n50 n51 n52 n53 n54 n57 n58 n62 n63 va vb vc (n + 1) f_161 (by omega) F G (by have h9 : kad vc 8 (kst n (kby vb 0)) = F := hF; rw [hst] at h9; exact h9) (by have h9 : kfa vc 8 (kst n (kby vb 0)) (kup f n (kby vb 0)) = G := hG; rw [hst, hup] at h9; exact h9) hC hr hlocks _ _ (kW.sub hw [0, 1] rfl rfl) _ (lv_sub hl [0, 3, 4, 5, 6] rfl)

set_option maxHeartbeats 4000000 in
set_option maxRecDepth 100000 in
theorem mf_14 {γ : kΓ} {l : Launch} {p : Program} {e : Env} {s : State} {m : MethodId} {below : List Frame} {meth : Method} {c : Code} {A : Nat → Prop} (z : Nat) (z2 : Nat) (z10 : Nat) (z11 : Nat) (z12 : Nat) (z13 : Nat) (z14 : Nat) (z15 : Nat) (z16 : Nat) (z17 : Nat) (z18 : Nat) (z19 : Nat) (z22 : Nat) (z23 : Nat) (z24 : Nat) (z25 : Nat) (z26 : Nat) (z27 : Nat) (z28 : Nat) (z29 : Nat) (z30 : Nat) (z31 : Nat) (z32 : Nat) (z33 : Nat) (z36 : Nat) (z37 : Nat) (z38 : Nat) (z39 : Nat) (z40 : Nat) (z41 : Nat) (z42 : Nat) (z43 : Nat) (z44 : Nat) (z45 : Nat) (z46 : Nat) (z47 : Nat) (z48 : Nat) (z55 : Nat) (z56 : Nat) (z59 : Nat) (z60 : Nat) (z61 : Nat) (n3 : Int32) (n4 : Int32) (n5 : Int32) (n6 : Int32) (n7 : Int64) (n8 : Int32) (n9 : Int32) (n20 : Int32) (n21 : Int32) (n34 : Int32) (n35 : Int64) (n49 : Int32) (n50 : Int32) (n51 : Int32) (n52 : Int32) (n53 : Int32) (n54 : Int32) (n57 : Int32) (n58 : Int32) (n62 : Int32) (n63 : Int64) (va : Int64) (vb : Int64) (vc : Int64) (n : Nat) (f : Nat → Int32) (hn : n ≤ 1000) (F : Nat) (G : Nat → Int32) (hF : kad vc 8 (kad vb 2 n) = F) (hG : kfa vc 8 (kad vb 2 n) (kfa vb 2 n f) = G) (hC : kC γ p s m [.ref z, .long va, .long vb, .long vc].toArray c cX12_feed 11 RX12 A) (hr : meth.sig.returnType = (some .int)) (hlocks : meth.locks = false) (H : Heap) (locs : List Loc) (hw : kW γ A [(z, .inr (11, [.int 0, .int (nI n), .ref z2, .int n3, .int n4, .int n5, .int n6, .long n7, .int n8, .int n9, .ref z10, .ref z11, .ref z12, .ref z13, .ref z14, .ref z15, .ref z16, .ref z17, .ref z18, .ref z19, .int n20, .int n21, .ref z22, .ref z23, .ref z24, .ref z25, .ref z26, .ref z27, .ref z28, .ref z29, .ref z30, .ref z31, .ref z32, .ref z33, .int n34, .long n35, .ref z36, .ref z37, .ref z38, .ref z39, .ref z40, .ref z41, .ref z42, .ref z43, .ref z44, .ref z45, .ref z46, .ref z47, .ref z48, .int n49, .int n50, .int n51, .int n52, .int n53, .int n54, .ref z55, .ref z56, .int n57, .int n58, .ref z59, .ref z60, .ref z61, .int n62, .long n63])), (z2, .inl (γ.2.1 0, 1000, .inl f))] s H locs) (ls : Array Slot) (hl : lv_has ls 11 [(7, .int 14), (0, .ref z), (1, .long va), (3, .long vb), (5, .long vc)]) : W p l e ({ frames := 0, cells := 0, slots := 0, locals := 0 } : Room) s m [.ref z, .long va, .long vb, .long vc].toArray below meth c H locs 0 0 (MQ below (kQ γ A (fun r w1 => r = some (.int (nI F)) ∧ w1 = [(z, .inr (11, [.int 0, .int (nI F), .ref z2, .int n3, .int n4, .int n5, .int n6, .long n7, .int n8, .int n9, .ref z10, .ref z11, .ref z12, .ref z13, .ref z14, .ref z15, .ref z16, .ref z17, .ref z18, .ref z19, .int n20, .int n21, .ref z22, .ref z23, .ref z24, .ref z25, .ref z26, .ref z27, .ref z28, .ref z29, .ref z30, .ref z31, .ref z32, .ref z33, .int n34, .long n35, .ref z36, .ref z37, .ref z38, .ref z39, .ref z40, .ref z41, .ref z42, .ref z43, .ref z44, .ref z45, .ref z46, .ref z47, .ref z48, .int n49, .int n50, .int n51, .int n52, .int n53, .int n54, .ref z55, .ref z56, .int n57, .int n58, .ref z59, .ref z60, .ref z61, .int n62, .long n63])), (z2, .inl (γ.2.1 0, 1000, .inl G))])) [.ref z, .long va, .long vb, .long vc].toArray s 0 0 A) (F0 m 8 ls []) := by
  have hx := hC.1
  have hb := hC.2.1
  refine lv_iload hx hb dX12_feed_8 (lv_at hl 0 rfl) ?_
  refine lv_bipush (v := 24) hx hb dX12_feed_10 (by decide) ?_
  refine lv_icmp_ge (tgt := 120) hx hb dX12_feed_12 (by decide) (fun h => absurd h (by decide)) (fun _ => ?_)
  refine lv_iload hx hb dX12_feed_15 (lv_at hl 0 rfl) ?_
  refine lv_bipush (v := 8) hx hb dX12_feed_17 (by decide) ?_
  refine lv_icmp_ge (tgt := 26) hx hb dX12_feed_19 (by decide) (fun _ => ?_) (fun h => absurd (by decide) h)
  refine lv_iload hx hb dX12_feed_26 (lv_at hl 0 rfl) ?_
  refine lv_bipush (v := 16) hx hb dX12_feed_28 (by decide) ?_
  refine lv_icmp_ge (tgt := 37) hx hb dX12_feed_30 (by decide) (fun h => absurd h (by decide)) (fun _ => ?_)
  refine lv_lload_n hx hb dX12_feed_33 rfl (lv_at hl 3 rfl) ?_
  refine lv_goto (tgt := 39) hx hb dX12_feed_34 (by decide) ?_
  refine lv_lstore (lv' := [(8, .long vb), (7, .int 14), (0, .ref z), (1, .long va), (3, .long vb), (5, .long vc)]) hx hb dX12_feed_39 hl (by decide) rfl (fun ls hl => ?_)
  refine lv_lload hx hb dX12_feed_41 (lv_at hl 0 rfl) ?_
  refine lv_bipush (v := 56) hx hb dX12_feed_43 (by decide) ?_
  refine lv_bipush (v := 8) hx hb dX12_feed_45 (by decide) ?_
  refine lv_iload hx hb dX12_feed_47 (lv_at hl 1 rfl) ?_
  refine lv_bipush (v := 7) hx hb dX12_feed_49 (by decide) ?_
  refine lv_iand hx hb dX12_feed_51 ?_
  refine lv_topi (fun x_163 ex_163 => ?_)
  obtain rfl : x_163 = 6 := ex_163.trans (by decide)
  refine lv_imul hx hb dX12_feed_52 ?_
  refine lv_topi (fun x_164 ex_164 => ?_)
  obtain rfl : x_164 = 48 := ex_164.trans (by decide)
  refine lv_isub hx hb dX12_feed_53 ?_
  refine lv_topi (fun x_165 ex_165 => ?_)
  obtain rfl : x_165 = 8 := ex_165.trans (by decide)
  refine lv_lushr hx hb dX12_feed_54 rfl ?_
  refine lv_topl (fun x_166 ex_166 => ?_)
  refine k_ldc2 hC gw_1389 dX12_feed_55 ?_
  refine lv_land hx hb dX12_feed_58 ?_
  refine lv_topl (fun x_167 ex_167 => ?_)
  refine lv_l2i hx hb dX12_feed_59 rfl ?_
  refine lv_topi (fun x_168 ex_168 => ?_)
  refine lv_istore (lv' := [(10, .int x_168), (8, .long vb), (7, .int 14), (0, .ref z), (1, .long va), (3, .long vb), (5, .long vc)]) hx hb dX12_feed_60 hl (by decide) rfl (fun ls hl => ?_)
  have hk : x_168 = kby vb 8 := by rw [ex_168, ex_167, k_land, ex_166]; rfl
  refine lv_aload_n hx hb dX12_feed_62 rfl (lv_at hl 3 rfl) ?_
  refine fg_RX12_148 hC hw 0 rfl rfl dX12_feed_63 ?_
  refine lv_sipush (v := 1000) hx hb dX12_feed_66 (by decide) ?_
  refine lv_icmp_ge (tgt := 114) hx hb dX12_feed_69 (by decide) (fun c69 => ?_) (fun c69 => ?_)
  · have hfull : ¬ n < 1000 := fun h9 => absurd c69 (nI_ge h9 (by decide))
    refine lv_iinc (v := 15) (lv' := [(7, .int 15), (10, .int x_168), (8, .long vb), (0, .ref z), (1, .long va), (3, .long vb), (5, .long vc)]) hx hb dX12_feed_114 hl (k := 2) rfl (by decide) (by decide) rfl (fun ls hl => ?_)
    refine lv_goto (tgt := 8) hx hb dX12_feed_117 (by decide) ?_
    have hst : kst n (kby vb 8) = n := by rw [← hk]; exact (by first | exact kst_full hfull | exact kst_a c76 hlt | exact kst_b c83 c90 hlt | exact kst_lo c76 c83 | exact kst_hi c76 c90)
    have hup : kup f n (kby vb 8) = f := by rw [← hk]; exact (by first | exact kup_full hfull | exact kup_lo c76 c83 | exact kup_hi c76 c90)
    exact mf_15 z z2 z10 z11 z12 z13 z14 z15 z16 z17 z18 z19 z22 z23 z24 z25 z26 z27 z28 z29 z30 z31 z32 z33 z36 z37 z38 z39 z40 z41 z42 z43 z44 z45 z46 z47 z48 z55 z56 z59 z60 z61 n3 n4 n5 n6 n7 n8 n9 n20 n21 n34 n35 n49 n50 n51 n52 n53 n54 n57 n58 n62 n63 va vb vc n f (by omega) F G (by have h9 : kad vc 8 (kad vb 1 (kst n (kby vb 8))) = F := hF; rw [hst] at h9; exact h9) (by have h9 : kfa vc 8 (kad vb 1 (kst n (kby vb 8))) (kfa vb 1 (kst n (kby vb 8)) (kup f n (kby vb 8))) = G := hG; rw [hst, hup] at h9; exact h9) hC hr hlocks _ _ (kW.sub hw [0, 1] rfl rfl) _ (lv_sub hl [0, 3, 4, 5, 6] rfl)
  · have hlt : n < 1000 := by rcases Nat.lt_or_ge n 1000 with h9 | h9; exact h9; exact absurd (nI_le h9 (by omega)) c69
    refine lv_iload hx hb dX12_feed_72 (lv_at hl 0 rfl) ?_
    refine lv_bipush (v := 10) hx hb dX12_feed_74 (by decide) ?_
    refine lv_icmp_eq (tgt := 93) hx hb dX12_feed_76 (by decide) (fun c76 => ?_) (fun c76 => ?_)
    · refine lv_aload_n hx hb dX12_feed_93 rfl (lv_at hl 3 rfl) ?_
      refine fg_RX12_7 hC hw 0 rfl rfl dX12_feed_94 ?_
      refine lv_aload_n hx hb dX12_feed_97 rfl (lv_at hl 3 rfl) ?_
      refine fg_RX12_148 hC hw 0 rfl rfl dX12_feed_98 ?_
      refine lv_iload hx hb dX12_feed_101 (lv_at hl 0 rfl) ?_
      refine k_iast hC hw 1 rfl (vp_in_nI hlt (by decide)) dX12_feed_103 (fun H locs hw => ?_)
      obtain ⟨f_169, ef_169⟩ : ∃ g, g = upd f ((nI n) : Int32).toNatClampNeg x_168 := ⟨_, rfl⟩
      have hw : kW γ A [(z, .inr (11, [.int 0, .int (nI n), .ref z2, .int n3, .int n4, .int n5, .int n6, .long n7, .int n8, .int n9, .ref z10, .ref z11, .ref z12, .ref z13, .ref z14, .ref z15, .ref z16, .ref z17, .ref z18, .ref z19, .int n20, .int n21, .ref z22, .ref z23, .ref z24, .ref z25, .ref z26, .ref z27, .ref z28, .ref z29, .ref z30, .ref z31, .ref z32, .ref z33, .int n34, .long n35, .ref z36, .ref z37, .ref z38, .ref z39, .ref z40, .ref z41, .ref z42, .ref z43, .ref z44, .ref z45, .ref z46, .ref z47, .ref z48, .int n49, .int n50, .int n51, .int n52, .int n53, .int n54, .ref z55, .ref z56, .int n57, .int n58, .ref z59, .ref z60, .ref z61, .int n62, .long n63])), (z2, .inl (γ.2.1 0, 1000, .inl f_169))] s H locs := by rw [ef_169]; exact hw
      refine lv_aload_n hx hb dX12_feed_104 rfl (lv_at hl 3 rfl) ?_
      refine lv_dup hx hb dX12_feed_105 rfl ?_
      refine fg_RX12_148 hC hw 0 rfl rfl dX12_feed_106 ?_
      refine lv_iconst (v := 1) hx hb dX12_feed_109 (by decide) ?_
      refine lv_iadd hx hb dX12_feed_110 ?_
      refine lv_topi (fun x_170 ex_170 => ?_)
      obtain rfl : x_170 = (nI (n + 1)) := ex_170.trans (nI_1 n)
      refine fs_RX12_148 hC hw 0 rfl rfl rfl (Nat.le_of_ble_eq_true rfl) dX12_feed_111 (fun H locs hw => ?_)
      have hw : kW γ A [(z, .inr (11, [.int 0, .int (nI (n + 1)), .ref z2, .int n3, .int n4, .int n5, .int n6, .long n7, .int n8, .int n9, .ref z10, .ref z11, .ref z12, .ref z13, .ref z14, .ref z15, .ref z16, .ref z17, .ref z18, .ref z19, .int n20, .int n21, .ref z22, .ref z23, .ref z24, .ref z25, .ref z26, .ref z27, .ref z28, .ref z29, .ref z30, .ref z31, .ref z32, .ref z33, .int n34, .long n35, .ref z36, .ref z37, .ref z38, .ref z39, .ref z40, .ref z41, .ref z42, .ref z43, .ref z44, .ref z45, .ref z46, .ref z47, .ref z48, .int n49, .int n50, .int n51, .int n52, .int n53, .int n54, .ref z55, .ref z56, .int n57, .int n58, .ref z59, .ref z60, .ref z61, .int n62, .long n63])), (z2, .inl (γ.2.1 0, 1000, .inl f_169))] s H locs := hw
      refine lv_iinc (v := 15) (lv' := [(7, .int 15), (10, .int x_168), (8, .long vb), (0, .ref z), (1, .long va), (3, .long vb), (5, .long vc)]) hx hb dX12_feed_114 hl (k := 2) rfl (by decide) (by decide) rfl (fun ls hl => ?_)
      refine lv_goto (tgt := 8) hx hb dX12_feed_117 (by decide) ?_
      have hst : kst n (kby vb 8) = (n + 1) := by rw [← hk]; exact (by first | exact kst_full hfull | exact kst_a c76 hlt | exact kst_b c83 c90 hlt | exact kst_lo c76 c83 | exact kst_hi c76 c90)
      have hup : kup f n (kby vb 8) = f_169 := by rw [← hk, ef_169, nI_clamp (by omega)]; exact kup_y (by first | exact kok_a c76 | exact kok_b c83 c90) hlt
      exact mf_15 z z2 z10 z11 z12 z13 z14 z15 z16 z17 z18 z19 z22 z23 z24 z25 z26 z27 z28 z29 z30 z31 z32 z33 z36 z37 z38 z39 z40 z41 z42 z43 z44 z45 z46 z47 z48 z55 z56 z59 z60 z61 n3 n4 n5 n6 n7 n8 n9 n20 n21 n34 n35 n49 n50 n51 n52 n53 n54 n57 n58 n62 n63 va vb vc (n + 1) f_169 (by omega) F G (by have h9 : kad vc 8 (kad vb 1 (kst n (kby vb 8))) = F := hF; rw [hst] at h9; exact h9) (by have h9 : kfa vc 8 (kad vb 1 (kst n (kby vb 8))) (kfa vb 1 (kst n (kby vb 8)) (kup f n (kby vb 8))) = G := hG; rw [hst, hup] at h9; exact h9) hC hr hlocks _ _ (kW.sub hw [0, 1] rfl rfl) _ (lv_sub hl [0, 3, 4, 5, 6] rfl)
    · refine lv_iload hx hb dX12_feed_79 (lv_at hl 0 rfl) ?_
      refine lv_bipush (v := 32) hx hb dX12_feed_81 (by decide) ?_
      refine lv_icmp_lt (tgt := 114) hx hb dX12_feed_83 (by decide) (fun c83 => ?_) (fun c83 => ?_)
      · refine lv_iinc (v := 15) (lv' := [(7, .int 15), (10, .int x_168), (8, .long vb), (0, .ref z), (1, .long va), (3, .long vb), (5, .long vc)]) hx hb dX12_feed_114 hl (k := 2) rfl (by decide) (by decide) rfl (fun ls hl => ?_)
        refine lv_goto (tgt := 8) hx hb dX12_feed_117 (by decide) ?_
        have hst : kst n (kby vb 8) = n := by rw [← hk]; exact (by first | exact kst_full hfull | exact kst_a c76 hlt | exact kst_b c83 c90 hlt | exact kst_lo c76 c83 | exact kst_hi c76 c90)
        have hup : kup f n (kby vb 8) = f := by rw [← hk]; exact (by first | exact kup_full hfull | exact kup_lo c76 c83 | exact kup_hi c76 c90)
        exact mf_15 z z2 z10 z11 z12 z13 z14 z15 z16 z17 z18 z19 z22 z23 z24 z25 z26 z27 z28 z29 z30 z31 z32 z33 z36 z37 z38 z39 z40 z41 z42 z43 z44 z45 z46 z47 z48 z55 z56 z59 z60 z61 n3 n4 n5 n6 n7 n8 n9 n20 n21 n34 n35 n49 n50 n51 n52 n53 n54 n57 n58 n62 n63 va vb vc n f (by omega) F G (by have h9 : kad vc 8 (kad vb 1 (kst n (kby vb 8))) = F := hF; rw [hst] at h9; exact h9) (by have h9 : kfa vc 8 (kad vb 1 (kst n (kby vb 8))) (kfa vb 1 (kst n (kby vb 8)) (kup f n (kby vb 8))) = G := hG; rw [hst, hup] at h9; exact h9) hC hr hlocks _ _ (kW.sub hw [0, 1] rfl rfl) _ (lv_sub hl [0, 3, 4, 5, 6] rfl)
      · refine lv_iload hx hb dX12_feed_86 (lv_at hl 0 rfl) ?_
        refine lv_bipush (v := 126) hx hb dX12_feed_88 (by decide) ?_
        refine lv_icmp_gt (tgt := 114) hx hb dX12_feed_90 (by decide) (fun c90 => ?_) (fun c90 => ?_)
        · refine lv_iinc (v := 15) (lv' := [(7, .int 15), (10, .int x_168), (8, .long vb), (0, .ref z), (1, .long va), (3, .long vb), (5, .long vc)]) hx hb dX12_feed_114 hl (k := 2) rfl (by decide) (by decide) rfl (fun ls hl => ?_)
          refine lv_goto (tgt := 8) hx hb dX12_feed_117 (by decide) ?_
          have hst : kst n (kby vb 8) = n := by rw [← hk]; exact (by first | exact kst_full hfull | exact kst_a c76 hlt | exact kst_b c83 c90 hlt | exact kst_lo c76 c83 | exact kst_hi c76 c90)
          have hup : kup f n (kby vb 8) = f := by rw [← hk]; exact (by first | exact kup_full hfull | exact kup_lo c76 c83 | exact kup_hi c76 c90)
          exact mf_15 z z2 z10 z11 z12 z13 z14 z15 z16 z17 z18 z19 z22 z23 z24 z25 z26 z27 z28 z29 z30 z31 z32 z33 z36 z37 z38 z39 z40 z41 z42 z43 z44 z45 z46 z47 z48 z55 z56 z59 z60 z61 n3 n4 n5 n6 n7 n8 n9 n20 n21 n34 n35 n49 n50 n51 n52 n53 n54 n57 n58 n62 n63 va vb vc n f (by omega) F G (by have h9 : kad vc 8 (kad vb 1 (kst n (kby vb 8))) = F := hF; rw [hst] at h9; exact h9) (by have h9 : kfa vc 8 (kad vb 1 (kst n (kby vb 8))) (kfa vb 1 (kst n (kby vb 8)) (kup f n (kby vb 8))) = G := hG; rw [hst, hup] at h9; exact h9) hC hr hlocks _ _ (kW.sub hw [0, 1] rfl rfl) _ (lv_sub hl [0, 3, 4, 5, 6] rfl)
        · refine lv_aload_n hx hb dX12_feed_93 rfl (lv_at hl 3 rfl) ?_
          refine fg_RX12_7 hC hw 0 rfl rfl dX12_feed_94 ?_
          refine lv_aload_n hx hb dX12_feed_97 rfl (lv_at hl 3 rfl) ?_
          refine fg_RX12_148 hC hw 0 rfl rfl dX12_feed_98 ?_
          refine lv_iload hx hb dX12_feed_101 (lv_at hl 0 rfl) ?_
          refine k_iast hC hw 1 rfl (vp_in_nI hlt (by decide)) dX12_feed_103 (fun H locs hw => ?_)
          obtain ⟨f_171, ef_171⟩ : ∃ g, g = upd f ((nI n) : Int32).toNatClampNeg x_168 := ⟨_, rfl⟩
          have hw : kW γ A [(z, .inr (11, [.int 0, .int (nI n), .ref z2, .int n3, .int n4, .int n5, .int n6, .long n7, .int n8, .int n9, .ref z10, .ref z11, .ref z12, .ref z13, .ref z14, .ref z15, .ref z16, .ref z17, .ref z18, .ref z19, .int n20, .int n21, .ref z22, .ref z23, .ref z24, .ref z25, .ref z26, .ref z27, .ref z28, .ref z29, .ref z30, .ref z31, .ref z32, .ref z33, .int n34, .long n35, .ref z36, .ref z37, .ref z38, .ref z39, .ref z40, .ref z41, .ref z42, .ref z43, .ref z44, .ref z45, .ref z46, .ref z47, .ref z48, .int n49, .int n50, .int n51, .int n52, .int n53, .int n54, .ref z55, .ref z56, .int n57, .int n58, .ref z59, .ref z60, .ref z61, .int n62, .long n63])), (z2, .inl (γ.2.1 0, 1000, .inl f_171))] s H locs := by rw [ef_171]; exact hw
          refine lv_aload_n hx hb dX12_feed_104 rfl (lv_at hl 3 rfl) ?_
          refine lv_dup hx hb dX12_feed_105 rfl ?_
          refine fg_RX12_148 hC hw 0 rfl rfl dX12_feed_106 ?_
          refine lv_iconst (v := 1) hx hb dX12_feed_109 (by decide) ?_
          refine lv_iadd hx hb dX12_feed_110 ?_
          refine lv_topi (fun x_172 ex_172 => ?_)
          obtain rfl : x_172 = (nI (n + 1)) := ex_172.trans (nI_1 n)
          refine fs_RX12_148 hC hw 0 rfl rfl rfl (Nat.le_of_ble_eq_true rfl) dX12_feed_111 (fun H locs hw => ?_)
          have hw : kW γ A [(z, .inr (11, [.int 0, .int (nI (n + 1)), .ref z2, .int n3, .int n4, .int n5, .int n6, .long n7, .int n8, .int n9, .ref z10, .ref z11, .ref z12, .ref z13, .ref z14, .ref z15, .ref z16, .ref z17, .ref z18, .ref z19, .int n20, .int n21, .ref z22, .ref z23, .ref z24, .ref z25, .ref z26, .ref z27, .ref z28, .ref z29, .ref z30, .ref z31, .ref z32, .ref z33, .int n34, .long n35, .ref z36, .ref z37, .ref z38, .ref z39, .ref z40, .ref z41, .ref z42, .ref z43, .ref z44, .ref z45, .ref z46, .ref z47, .ref z48, .int n49, .int n50, .int n51, .int n52, .int n53, .int n54, .ref z55, .ref z56, .int n57, .int n58, .ref z59, .ref z60, .ref z61, .int n62, .long n63])), (z2, .inl (γ.2.1 0, 1000, .inl f_171))] s H locs := hw
          refine lv_iinc (v := 15) (lv' := [(7, .int 15), (10, .int x_168), (8, .long vb), (0, .ref z), (1, .long va), (3, .long vb), (5, .long vc)]) hx hb dX12_feed_114 hl (k := 2) rfl (by decide) (by decide) rfl (fun ls hl => ?_)
          refine lv_goto (tgt := 8) hx hb dX12_feed_117 (by decide) ?_
          have hst : kst n (kby vb 8) = (n + 1) := by rw [← hk]; exact (by first | exact kst_full hfull | exact kst_a c76 hlt | exact kst_b c83 c90 hlt | exact kst_lo c76 c83 | exact kst_hi c76 c90)
          have hup : kup f n (kby vb 8) = f_171 := by rw [← hk, ef_171, nI_clamp (by omega)]; exact kup_y (by first | exact kok_a c76 | exact kok_b c83 c90) hlt
          exact mf_15 z z2 z10 z11 z12 z13 z14 z15 z16 z17 z18 z19 z22 z23 z24 z25 z26 z27 z28 z29 z30 z31 z32 z33 z36 z37 z38 z39 z40 z41 z42 z43 z44 z45 z46 z47 z48 z55 z56 z59 z60 z61 n3 n4 n5 n6 n7 n8 n9 n20 n21 n34 n35 n49 n50 n51 n52 n53 n54 n57 n58 n62 n63 va vb vc (n + 1) f_171 (by omega) F G (by have h9 : kad vc 8 (kad vb 1 (kst n (kby vb 8))) = F := hF; rw [hst] at h9; exact h9) (by have h9 : kfa vc 8 (kad vb 1 (kst n (kby vb 8))) (kfa vb 1 (kst n (kby vb 8)) (kup f n (kby vb 8))) = G := hG; rw [hst, hup] at h9; exact h9) hC hr hlocks _ _ (kW.sub hw [0, 1] rfl rfl) _ (lv_sub hl [0, 3, 4, 5, 6] rfl)

set_option maxHeartbeats 4000000 in
set_option maxRecDepth 100000 in
theorem mf_13 {γ : kΓ} {l : Launch} {p : Program} {e : Env} {s : State} {m : MethodId} {below : List Frame} {meth : Method} {c : Code} {A : Nat → Prop} (z : Nat) (z2 : Nat) (z10 : Nat) (z11 : Nat) (z12 : Nat) (z13 : Nat) (z14 : Nat) (z15 : Nat) (z16 : Nat) (z17 : Nat) (z18 : Nat) (z19 : Nat) (z22 : Nat) (z23 : Nat) (z24 : Nat) (z25 : Nat) (z26 : Nat) (z27 : Nat) (z28 : Nat) (z29 : Nat) (z30 : Nat) (z31 : Nat) (z32 : Nat) (z33 : Nat) (z36 : Nat) (z37 : Nat) (z38 : Nat) (z39 : Nat) (z40 : Nat) (z41 : Nat) (z42 : Nat) (z43 : Nat) (z44 : Nat) (z45 : Nat) (z46 : Nat) (z47 : Nat) (z48 : Nat) (z55 : Nat) (z56 : Nat) (z59 : Nat) (z60 : Nat) (z61 : Nat) (n3 : Int32) (n4 : Int32) (n5 : Int32) (n6 : Int32) (n7 : Int64) (n8 : Int32) (n9 : Int32) (n20 : Int32) (n21 : Int32) (n34 : Int32) (n35 : Int64) (n49 : Int32) (n50 : Int32) (n51 : Int32) (n52 : Int32) (n53 : Int32) (n54 : Int32) (n57 : Int32) (n58 : Int32) (n62 : Int32) (n63 : Int64) (va : Int64) (vb : Int64) (vc : Int64) (n : Nat) (f : Nat → Int32) (hn : n ≤ 1000) (F : Nat) (G : Nat → Int32) (hF : kad vc 8 (kad vb 3 n) = F) (hG : kfa vc 8 (kad vb 3 n) (kfa vb 3 n f) = G) (hC : kC γ p s m [.ref z, .long va, .long vb, .long vc].toArray c cX12_feed 11 RX12 A) (hr : meth.sig.returnType = (some .int)) (hlocks : meth.locks = false) (H : Heap) (locs : List Loc) (hw : kW γ A [(z, .inr (11, [.int 0, .int (nI n), .ref z2, .int n3, .int n4, .int n5, .int n6, .long n7, .int n8, .int n9, .ref z10, .ref z11, .ref z12, .ref z13, .ref z14, .ref z15, .ref z16, .ref z17, .ref z18, .ref z19, .int n20, .int n21, .ref z22, .ref z23, .ref z24, .ref z25, .ref z26, .ref z27, .ref z28, .ref z29, .ref z30, .ref z31, .ref z32, .ref z33, .int n34, .long n35, .ref z36, .ref z37, .ref z38, .ref z39, .ref z40, .ref z41, .ref z42, .ref z43, .ref z44, .ref z45, .ref z46, .ref z47, .ref z48, .int n49, .int n50, .int n51, .int n52, .int n53, .int n54, .ref z55, .ref z56, .int n57, .int n58, .ref z59, .ref z60, .ref z61, .int n62, .long n63])), (z2, .inl (γ.2.1 0, 1000, .inl f))] s H locs) (ls : Array Slot) (hl : lv_has ls 11 [(7, .int 13), (0, .ref z), (1, .long va), (3, .long vb), (5, .long vc)]) : W p l e ({ frames := 0, cells := 0, slots := 0, locals := 0 } : Room) s m [.ref z, .long va, .long vb, .long vc].toArray below meth c H locs 0 0 (MQ below (kQ γ A (fun r w1 => r = some (.int (nI F)) ∧ w1 = [(z, .inr (11, [.int 0, .int (nI F), .ref z2, .int n3, .int n4, .int n5, .int n6, .long n7, .int n8, .int n9, .ref z10, .ref z11, .ref z12, .ref z13, .ref z14, .ref z15, .ref z16, .ref z17, .ref z18, .ref z19, .int n20, .int n21, .ref z22, .ref z23, .ref z24, .ref z25, .ref z26, .ref z27, .ref z28, .ref z29, .ref z30, .ref z31, .ref z32, .ref z33, .int n34, .long n35, .ref z36, .ref z37, .ref z38, .ref z39, .ref z40, .ref z41, .ref z42, .ref z43, .ref z44, .ref z45, .ref z46, .ref z47, .ref z48, .int n49, .int n50, .int n51, .int n52, .int n53, .int n54, .ref z55, .ref z56, .int n57, .int n58, .ref z59, .ref z60, .ref z61, .int n62, .long n63])), (z2, .inl (γ.2.1 0, 1000, .inl G))])) [.ref z, .long va, .long vb, .long vc].toArray s 0 0 A) (F0 m 8 ls []) := by
  have hx := hC.1
  have hb := hC.2.1
  refine lv_iload hx hb dX12_feed_8 (lv_at hl 0 rfl) ?_
  refine lv_bipush (v := 24) hx hb dX12_feed_10 (by decide) ?_
  refine lv_icmp_ge (tgt := 120) hx hb dX12_feed_12 (by decide) (fun h => absurd h (by decide)) (fun _ => ?_)
  refine lv_iload hx hb dX12_feed_15 (lv_at hl 0 rfl) ?_
  refine lv_bipush (v := 8) hx hb dX12_feed_17 (by decide) ?_
  refine lv_icmp_ge (tgt := 26) hx hb dX12_feed_19 (by decide) (fun _ => ?_) (fun h => absurd (by decide) h)
  refine lv_iload hx hb dX12_feed_26 (lv_at hl 0 rfl) ?_
  refine lv_bipush (v := 16) hx hb dX12_feed_28 (by decide) ?_
  refine lv_icmp_ge (tgt := 37) hx hb dX12_feed_30 (by decide) (fun h => absurd h (by decide)) (fun _ => ?_)
  refine lv_lload_n hx hb dX12_feed_33 rfl (lv_at hl 3 rfl) ?_
  refine lv_goto (tgt := 39) hx hb dX12_feed_34 (by decide) ?_
  refine lv_lstore (lv' := [(8, .long vb), (7, .int 13), (0, .ref z), (1, .long va), (3, .long vb), (5, .long vc)]) hx hb dX12_feed_39 hl (by decide) rfl (fun ls hl => ?_)
  refine lv_lload hx hb dX12_feed_41 (lv_at hl 0 rfl) ?_
  refine lv_bipush (v := 56) hx hb dX12_feed_43 (by decide) ?_
  refine lv_bipush (v := 8) hx hb dX12_feed_45 (by decide) ?_
  refine lv_iload hx hb dX12_feed_47 (lv_at hl 1 rfl) ?_
  refine lv_bipush (v := 7) hx hb dX12_feed_49 (by decide) ?_
  refine lv_iand hx hb dX12_feed_51 ?_
  refine lv_topi (fun x_173 ex_173 => ?_)
  obtain rfl : x_173 = 5 := ex_173.trans (by decide)
  refine lv_imul hx hb dX12_feed_52 ?_
  refine lv_topi (fun x_174 ex_174 => ?_)
  obtain rfl : x_174 = 40 := ex_174.trans (by decide)
  refine lv_isub hx hb dX12_feed_53 ?_
  refine lv_topi (fun x_175 ex_175 => ?_)
  obtain rfl : x_175 = 16 := ex_175.trans (by decide)
  refine lv_lushr hx hb dX12_feed_54 rfl ?_
  refine lv_topl (fun x_176 ex_176 => ?_)
  refine k_ldc2 hC gw_1389 dX12_feed_55 ?_
  refine lv_land hx hb dX12_feed_58 ?_
  refine lv_topl (fun x_177 ex_177 => ?_)
  refine lv_l2i hx hb dX12_feed_59 rfl ?_
  refine lv_topi (fun x_178 ex_178 => ?_)
  refine lv_istore (lv' := [(10, .int x_178), (8, .long vb), (7, .int 13), (0, .ref z), (1, .long va), (3, .long vb), (5, .long vc)]) hx hb dX12_feed_60 hl (by decide) rfl (fun ls hl => ?_)
  have hk : x_178 = kby vb 16 := by rw [ex_178, ex_177, k_land, ex_176]; rfl
  refine lv_aload_n hx hb dX12_feed_62 rfl (lv_at hl 3 rfl) ?_
  refine fg_RX12_148 hC hw 0 rfl rfl dX12_feed_63 ?_
  refine lv_sipush (v := 1000) hx hb dX12_feed_66 (by decide) ?_
  refine lv_icmp_ge (tgt := 114) hx hb dX12_feed_69 (by decide) (fun c69 => ?_) (fun c69 => ?_)
  · have hfull : ¬ n < 1000 := fun h9 => absurd c69 (nI_ge h9 (by decide))
    refine lv_iinc (v := 14) (lv' := [(7, .int 14), (10, .int x_178), (8, .long vb), (0, .ref z), (1, .long va), (3, .long vb), (5, .long vc)]) hx hb dX12_feed_114 hl (k := 2) rfl (by decide) (by decide) rfl (fun ls hl => ?_)
    refine lv_goto (tgt := 8) hx hb dX12_feed_117 (by decide) ?_
    have hst : kst n (kby vb 16) = n := by rw [← hk]; exact (by first | exact kst_full hfull | exact kst_a c76 hlt | exact kst_b c83 c90 hlt | exact kst_lo c76 c83 | exact kst_hi c76 c90)
    have hup : kup f n (kby vb 16) = f := by rw [← hk]; exact (by first | exact kup_full hfull | exact kup_lo c76 c83 | exact kup_hi c76 c90)
    exact mf_14 z z2 z10 z11 z12 z13 z14 z15 z16 z17 z18 z19 z22 z23 z24 z25 z26 z27 z28 z29 z30 z31 z32 z33 z36 z37 z38 z39 z40 z41 z42 z43 z44 z45 z46 z47 z48 z55 z56 z59 z60 z61 n3 n4 n5 n6 n7 n8 n9 n20 n21 n34 n35 n49 n50 n51 n52 n53 n54 n57 n58 n62 n63 va vb vc n f (by omega) F G (by have h9 : kad vc 8 (kad vb 2 (kst n (kby vb 16))) = F := hF; rw [hst] at h9; exact h9) (by have h9 : kfa vc 8 (kad vb 2 (kst n (kby vb 16))) (kfa vb 2 (kst n (kby vb 16)) (kup f n (kby vb 16))) = G := hG; rw [hst, hup] at h9; exact h9) hC hr hlocks _ _ (kW.sub hw [0, 1] rfl rfl) _ (lv_sub hl [0, 3, 4, 5, 6] rfl)
  · have hlt : n < 1000 := by rcases Nat.lt_or_ge n 1000 with h9 | h9; exact h9; exact absurd (nI_le h9 (by omega)) c69
    refine lv_iload hx hb dX12_feed_72 (lv_at hl 0 rfl) ?_
    refine lv_bipush (v := 10) hx hb dX12_feed_74 (by decide) ?_
    refine lv_icmp_eq (tgt := 93) hx hb dX12_feed_76 (by decide) (fun c76 => ?_) (fun c76 => ?_)
    · refine lv_aload_n hx hb dX12_feed_93 rfl (lv_at hl 3 rfl) ?_
      refine fg_RX12_7 hC hw 0 rfl rfl dX12_feed_94 ?_
      refine lv_aload_n hx hb dX12_feed_97 rfl (lv_at hl 3 rfl) ?_
      refine fg_RX12_148 hC hw 0 rfl rfl dX12_feed_98 ?_
      refine lv_iload hx hb dX12_feed_101 (lv_at hl 0 rfl) ?_
      refine k_iast hC hw 1 rfl (vp_in_nI hlt (by decide)) dX12_feed_103 (fun H locs hw => ?_)
      obtain ⟨f_179, ef_179⟩ : ∃ g, g = upd f ((nI n) : Int32).toNatClampNeg x_178 := ⟨_, rfl⟩
      have hw : kW γ A [(z, .inr (11, [.int 0, .int (nI n), .ref z2, .int n3, .int n4, .int n5, .int n6, .long n7, .int n8, .int n9, .ref z10, .ref z11, .ref z12, .ref z13, .ref z14, .ref z15, .ref z16, .ref z17, .ref z18, .ref z19, .int n20, .int n21, .ref z22, .ref z23, .ref z24, .ref z25, .ref z26, .ref z27, .ref z28, .ref z29, .ref z30, .ref z31, .ref z32, .ref z33, .int n34, .long n35, .ref z36, .ref z37, .ref z38, .ref z39, .ref z40, .ref z41, .ref z42, .ref z43, .ref z44, .ref z45, .ref z46, .ref z47, .ref z48, .int n49, .int n50, .int n51, .int n52, .int n53, .int n54, .ref z55, .ref z56, .int n57, .int n58, .ref z59, .ref z60, .ref z61, .int n62, .long n63])), (z2, .inl (γ.2.1 0, 1000, .inl f_179))] s H locs := by rw [ef_179]; exact hw
      refine lv_aload_n hx hb dX12_feed_104 rfl (lv_at hl 3 rfl) ?_
      refine lv_dup hx hb dX12_feed_105 rfl ?_
      refine fg_RX12_148 hC hw 0 rfl rfl dX12_feed_106 ?_
      refine lv_iconst (v := 1) hx hb dX12_feed_109 (by decide) ?_
      refine lv_iadd hx hb dX12_feed_110 ?_
      refine lv_topi (fun x_180 ex_180 => ?_)
      obtain rfl : x_180 = (nI (n + 1)) := ex_180.trans (nI_1 n)
      refine fs_RX12_148 hC hw 0 rfl rfl rfl (Nat.le_of_ble_eq_true rfl) dX12_feed_111 (fun H locs hw => ?_)
      have hw : kW γ A [(z, .inr (11, [.int 0, .int (nI (n + 1)), .ref z2, .int n3, .int n4, .int n5, .int n6, .long n7, .int n8, .int n9, .ref z10, .ref z11, .ref z12, .ref z13, .ref z14, .ref z15, .ref z16, .ref z17, .ref z18, .ref z19, .int n20, .int n21, .ref z22, .ref z23, .ref z24, .ref z25, .ref z26, .ref z27, .ref z28, .ref z29, .ref z30, .ref z31, .ref z32, .ref z33, .int n34, .long n35, .ref z36, .ref z37, .ref z38, .ref z39, .ref z40, .ref z41, .ref z42, .ref z43, .ref z44, .ref z45, .ref z46, .ref z47, .ref z48, .int n49, .int n50, .int n51, .int n52, .int n53, .int n54, .ref z55, .ref z56, .int n57, .int n58, .ref z59, .ref z60, .ref z61, .int n62, .long n63])), (z2, .inl (γ.2.1 0, 1000, .inl f_179))] s H locs := hw
      refine lv_iinc (v := 14) (lv' := [(7, .int 14), (10, .int x_178), (8, .long vb), (0, .ref z), (1, .long va), (3, .long vb), (5, .long vc)]) hx hb dX12_feed_114 hl (k := 2) rfl (by decide) (by decide) rfl (fun ls hl => ?_)
      refine lv_goto (tgt := 8) hx hb dX12_feed_117 (by decide) ?_
      have hst : kst n (kby vb 16) = (n + 1) := by rw [← hk]; exact (by first | exact kst_full hfull | exact kst_a c76 hlt | exact kst_b c83 c90 hlt | exact kst_lo c76 c83 | exact kst_hi c76 c90)
      have hup : kup f n (kby vb 16) = f_179 := by rw [← hk, ef_179, nI_clamp (by omega)]; exact kup_y (by first | exact kok_a c76 | exact kok_b c83 c90) hlt
      exact mf_14 z z2 z10 z11 z12 z13 z14 z15 z16 z17 z18 z19 z22 z23 z24 z25 z26 z27 z28 z29 z30 z31 z32 z33 z36 z37 z38 z39 z40 z41 z42 z43 z44 z45 z46 z47 z48 z55 z56 z59 z60 z61 n3 n4 n5 n6 n7 n8 n9 n20 n21 n34 n35 n49 n50 n51 n52 n53 n54 n57 n58 n62 n63 va vb vc (n + 1) f_179 (by omega) F G (by have h9 : kad vc 8 (kad vb 2 (kst n (kby vb 16))) = F := hF; rw [hst] at h9; exact h9) (by have h9 : kfa vc 8 (kad vb 2 (kst n (kby vb 16))) (kfa vb 2 (kst n (kby vb 16)) (kup f n (kby vb 16))) = G := hG; rw [hst, hup] at h9; exact h9) hC hr hlocks _ _ (kW.sub hw [0, 1] rfl rfl) _ (lv_sub hl [0, 3, 4, 5, 6] rfl)
    · refine lv_iload hx hb dX12_feed_79 (lv_at hl 0 rfl) ?_
      refine lv_bipush (v := 32) hx hb dX12_feed_81 (by decide) ?_
      refine lv_icmp_lt (tgt := 114) hx hb dX12_feed_83 (by decide) (fun c83 => ?_) (fun c83 => ?_)
      · refine lv_iinc (v := 14) (lv' := [(7, .int 14), (10, .int x_178), (8, .long vb), (0, .ref z), (1, .long va), (3, .long vb), (5, .long vc)]) hx hb dX12_feed_114 hl (k := 2) rfl (by decide) (by decide) rfl (fun ls hl => ?_)
        refine lv_goto (tgt := 8) hx hb dX12_feed_117 (by decide) ?_
        have hst : kst n (kby vb 16) = n := by rw [← hk]; exact (by first | exact kst_full hfull | exact kst_a c76 hlt | exact kst_b c83 c90 hlt | exact kst_lo c76 c83 | exact kst_hi c76 c90)
        have hup : kup f n (kby vb 16) = f := by rw [← hk]; exact (by first | exact kup_full hfull | exact kup_lo c76 c83 | exact kup_hi c76 c90)
        exact mf_14 z z2 z10 z11 z12 z13 z14 z15 z16 z17 z18 z19 z22 z23 z24 z25 z26 z27 z28 z29 z30 z31 z32 z33 z36 z37 z38 z39 z40 z41 z42 z43 z44 z45 z46 z47 z48 z55 z56 z59 z60 z61 n3 n4 n5 n6 n7 n8 n9 n20 n21 n34 n35 n49 n50 n51 n52 n53 n54 n57 n58 n62 n63 va vb vc n f (by omega) F G (by have h9 : kad vc 8 (kad vb 2 (kst n (kby vb 16))) = F := hF; rw [hst] at h9; exact h9) (by have h9 : kfa vc 8 (kad vb 2 (kst n (kby vb 16))) (kfa vb 2 (kst n (kby vb 16)) (kup f n (kby vb 16))) = G := hG; rw [hst, hup] at h9; exact h9) hC hr hlocks _ _ (kW.sub hw [0, 1] rfl rfl) _ (lv_sub hl [0, 3, 4, 5, 6] rfl)
      · refine lv_iload hx hb dX12_feed_86 (lv_at hl 0 rfl) ?_
        refine lv_bipush (v := 126) hx hb dX12_feed_88 (by decide) ?_
        refine lv_icmp_gt (tgt := 114) hx hb dX12_feed_90 (by decide) (fun c90 => ?_) (fun c90 => ?_)
        · refine lv_iinc (v := 14) (lv' := [(7, .int 14), (10, .int x_178), (8, .long vb), (0, .ref z), (1, .long va), (3, .long vb), (5, .long vc)]) hx hb dX12_feed_114 hl (k := 2) rfl (by decide) (by decide) rfl (fun ls hl => ?_)
          refine lv_goto (tgt := 8) hx hb dX12_feed_117 (by decide) ?_
          have hst : kst n (kby vb 16) = n := by rw [← hk]; exact (by first | exact kst_full hfull | exact kst_a c76 hlt | exact kst_b c83 c90 hlt | exact kst_lo c76 c83 | exact kst_hi c76 c90)
          have hup : kup f n (kby vb 16) = f := by rw [← hk]; exact (by first | exact kup_full hfull | exact kup_lo c76 c83 | exact kup_hi c76 c90)
          exact mf_14 z z2 z10 z11 z12 z13 z14 z15 z16 z17 z18 z19 z22 z23 z24 z25 z26 z27 z28 z29 z30 z31 z32 z33 z36 z37 z38 z39 z40 z41 z42 z43 z44 z45 z46 z47 z48 z55 z56 z59 z60 z61 n3 n4 n5 n6 n7 n8 n9 n20 n21 n34 n35 n49 n50 n51 n52 n53 n54 n57 n58 n62 n63 va vb vc n f (by omega) F G (by have h9 : kad vc 8 (kad vb 2 (kst n (kby vb 16))) = F := hF; rw [hst] at h9; exact h9) (by have h9 : kfa vc 8 (kad vb 2 (kst n (kby vb 16))) (kfa vb 2 (kst n (kby vb 16)) (kup f n (kby vb 16))) = G := hG; rw [hst, hup] at h9; exact h9) hC hr hlocks _ _ (kW.sub hw [0, 1] rfl rfl) _ (lv_sub hl [0, 3, 4, 5, 6] rfl)
        · refine lv_aload_n hx hb dX12_feed_93 rfl (lv_at hl 3 rfl) ?_
          refine fg_RX12_7 hC hw 0 rfl rfl dX12_feed_94 ?_
          refine lv_aload_n hx hb dX12_feed_97 rfl (lv_at hl 3 rfl) ?_
          refine fg_RX12_148 hC hw 0 rfl rfl dX12_feed_98 ?_
          refine lv_iload hx hb dX12_feed_101 (lv_at hl 0 rfl) ?_
          refine k_iast hC hw 1 rfl (vp_in_nI hlt (by decide)) dX12_feed_103 (fun H locs hw => ?_)
          obtain ⟨f_181, ef_181⟩ : ∃ g, g = upd f ((nI n) : Int32).toNatClampNeg x_178 := ⟨_, rfl⟩
          have hw : kW γ A [(z, .inr (11, [.int 0, .int (nI n), .ref z2, .int n3, .int n4, .int n5, .int n6, .long n7, .int n8, .int n9, .ref z10, .ref z11, .ref z12, .ref z13, .ref z14, .ref z15, .ref z16, .ref z17, .ref z18, .ref z19, .int n20, .int n21, .ref z22, .ref z23, .ref z24, .ref z25, .ref z26, .ref z27, .ref z28, .ref z29, .ref z30, .ref z31, .ref z32, .ref z33, .int n34, .long n35, .ref z36, .ref z37, .ref z38, .ref z39, .ref z40, .ref z41, .ref z42, .ref z43, .ref z44, .ref z45, .ref z46, .ref z47, .ref z48, .int n49, .int n50, .int n51, .int n52, .int n53, .int n54, .ref z55, .ref z56, .int n57, .int n58, .ref z59, .ref z60, .ref z61, .int n62, .long n63])), (z2, .inl (γ.2.1 0, 1000, .inl f_181))] s H locs := by rw [ef_181]; exact hw
          refine lv_aload_n hx hb dX12_feed_104 rfl (lv_at hl 3 rfl) ?_
          refine lv_dup hx hb dX12_feed_105 rfl ?_
          refine fg_RX12_148 hC hw 0 rfl rfl dX12_feed_106 ?_
          refine lv_iconst (v := 1) hx hb dX12_feed_109 (by decide) ?_
          refine lv_iadd hx hb dX12_feed_110 ?_
          refine lv_topi (fun x_182 ex_182 => ?_)
          obtain rfl : x_182 = (nI (n + 1)) := ex_182.trans (nI_1 n)
          refine fs_RX12_148 hC hw 0 rfl rfl rfl (Nat.le_of_ble_eq_true rfl) dX12_feed_111 (fun H locs hw => ?_)
          have hw : kW γ A [(z, .inr (11, [.int 0, .int (nI (n + 1)), .ref z2, .int n3, .int n4, .int n5, .int n6, .long n7, .int n8, .int n9, .ref z10, .ref z11, .ref z12, .ref z13, .ref z14, .ref z15, .ref z16, .ref z17, .ref z18, .ref z19, .int n20, .int n21, .ref z22, .ref z23, .ref z24, .ref z25, .ref z26, .ref z27, .ref z28, .ref z29, .ref z30, .ref z31, .ref z32, .ref z33, .int n34, .long n35, .ref z36, .ref z37, .ref z38, .ref z39, .ref z40, .ref z41, .ref z42, .ref z43, .ref z44, .ref z45, .ref z46, .ref z47, .ref z48, .int n49, .int n50, .int n51, .int n52, .int n53, .int n54, .ref z55, .ref z56, .int n57, .int n58, .ref z59, .ref z60, .ref z61, .int n62, .long n63])), (z2, .inl (γ.2.1 0, 1000, .inl f_181))] s H locs := hw
          refine lv_iinc (v := 14) (lv' := [(7, .int 14), (10, .int x_178), (8, .long vb), (0, .ref z), (1, .long va), (3, .long vb), (5, .long vc)]) hx hb dX12_feed_114 hl (k := 2) rfl (by decide) (by decide) rfl (fun ls hl => ?_)
          refine lv_goto (tgt := 8) hx hb dX12_feed_117 (by decide) ?_
          have hst : kst n (kby vb 16) = (n + 1) := by rw [← hk]; exact (by first | exact kst_full hfull | exact kst_a c76 hlt | exact kst_b c83 c90 hlt | exact kst_lo c76 c83 | exact kst_hi c76 c90)
          have hup : kup f n (kby vb 16) = f_181 := by rw [← hk, ef_181, nI_clamp (by omega)]; exact kup_y (by first | exact kok_a c76 | exact kok_b c83 c90) hlt
          exact mf_14 z z2 z10 z11 z12 z13 z14 z15 z16 z17 z18 z19 z22 z23 z24 z25 z26 z27 z28 z29 z30 z31 z32 z33 z36 z37 z38 z39 z40 z41 z42 z43 z44 z45 z46 z47 z48 z55 z56 z59 z60 z61 n3 n4 n5 n6 n7 n8 n9 n20 n21 n34 n35 n49 n50 n51 n52 n53 n54 n57 n58 n62 n63 va vb vc (n + 1) f_181 (by omega) F G (by have h9 : kad vc 8 (kad vb 2 (kst n (kby vb 16))) = F := hF; rw [hst] at h9; exact h9) (by have h9 : kfa vc 8 (kad vb 2 (kst n (kby vb 16))) (kfa vb 2 (kst n (kby vb 16)) (kup f n (kby vb 16))) = G := hG; rw [hst, hup] at h9; exact h9) hC hr hlocks _ _ (kW.sub hw [0, 1] rfl rfl) _ (lv_sub hl [0, 3, 4, 5, 6] rfl)

set_option maxHeartbeats 4000000 in
set_option maxRecDepth 100000 in
theorem mf_12 {γ : kΓ} {l : Launch} {p : Program} {e : Env} {s : State} {m : MethodId} {below : List Frame} {meth : Method} {c : Code} {A : Nat → Prop} (z : Nat) (z2 : Nat) (z10 : Nat) (z11 : Nat) (z12 : Nat) (z13 : Nat) (z14 : Nat) (z15 : Nat) (z16 : Nat) (z17 : Nat) (z18 : Nat) (z19 : Nat) (z22 : Nat) (z23 : Nat) (z24 : Nat) (z25 : Nat) (z26 : Nat) (z27 : Nat) (z28 : Nat) (z29 : Nat) (z30 : Nat) (z31 : Nat) (z32 : Nat) (z33 : Nat) (z36 : Nat) (z37 : Nat) (z38 : Nat) (z39 : Nat) (z40 : Nat) (z41 : Nat) (z42 : Nat) (z43 : Nat) (z44 : Nat) (z45 : Nat) (z46 : Nat) (z47 : Nat) (z48 : Nat) (z55 : Nat) (z56 : Nat) (z59 : Nat) (z60 : Nat) (z61 : Nat) (n3 : Int32) (n4 : Int32) (n5 : Int32) (n6 : Int32) (n7 : Int64) (n8 : Int32) (n9 : Int32) (n20 : Int32) (n21 : Int32) (n34 : Int32) (n35 : Int64) (n49 : Int32) (n50 : Int32) (n51 : Int32) (n52 : Int32) (n53 : Int32) (n54 : Int32) (n57 : Int32) (n58 : Int32) (n62 : Int32) (n63 : Int64) (va : Int64) (vb : Int64) (vc : Int64) (n : Nat) (f : Nat → Int32) (hn : n ≤ 1000) (F : Nat) (G : Nat → Int32) (hF : kad vc 8 (kad vb 4 n) = F) (hG : kfa vc 8 (kad vb 4 n) (kfa vb 4 n f) = G) (hC : kC γ p s m [.ref z, .long va, .long vb, .long vc].toArray c cX12_feed 11 RX12 A) (hr : meth.sig.returnType = (some .int)) (hlocks : meth.locks = false) (H : Heap) (locs : List Loc) (hw : kW γ A [(z, .inr (11, [.int 0, .int (nI n), .ref z2, .int n3, .int n4, .int n5, .int n6, .long n7, .int n8, .int n9, .ref z10, .ref z11, .ref z12, .ref z13, .ref z14, .ref z15, .ref z16, .ref z17, .ref z18, .ref z19, .int n20, .int n21, .ref z22, .ref z23, .ref z24, .ref z25, .ref z26, .ref z27, .ref z28, .ref z29, .ref z30, .ref z31, .ref z32, .ref z33, .int n34, .long n35, .ref z36, .ref z37, .ref z38, .ref z39, .ref z40, .ref z41, .ref z42, .ref z43, .ref z44, .ref z45, .ref z46, .ref z47, .ref z48, .int n49, .int n50, .int n51, .int n52, .int n53, .int n54, .ref z55, .ref z56, .int n57, .int n58, .ref z59, .ref z60, .ref z61, .int n62, .long n63])), (z2, .inl (γ.2.1 0, 1000, .inl f))] s H locs) (ls : Array Slot) (hl : lv_has ls 11 [(7, .int 12), (0, .ref z), (1, .long va), (3, .long vb), (5, .long vc)]) : W p l e ({ frames := 0, cells := 0, slots := 0, locals := 0 } : Room) s m [.ref z, .long va, .long vb, .long vc].toArray below meth c H locs 0 0 (MQ below (kQ γ A (fun r w1 => r = some (.int (nI F)) ∧ w1 = [(z, .inr (11, [.int 0, .int (nI F), .ref z2, .int n3, .int n4, .int n5, .int n6, .long n7, .int n8, .int n9, .ref z10, .ref z11, .ref z12, .ref z13, .ref z14, .ref z15, .ref z16, .ref z17, .ref z18, .ref z19, .int n20, .int n21, .ref z22, .ref z23, .ref z24, .ref z25, .ref z26, .ref z27, .ref z28, .ref z29, .ref z30, .ref z31, .ref z32, .ref z33, .int n34, .long n35, .ref z36, .ref z37, .ref z38, .ref z39, .ref z40, .ref z41, .ref z42, .ref z43, .ref z44, .ref z45, .ref z46, .ref z47, .ref z48, .int n49, .int n50, .int n51, .int n52, .int n53, .int n54, .ref z55, .ref z56, .int n57, .int n58, .ref z59, .ref z60, .ref z61, .int n62, .long n63])), (z2, .inl (γ.2.1 0, 1000, .inl G))])) [.ref z, .long va, .long vb, .long vc].toArray s 0 0 A) (F0 m 8 ls []) := by
  have hx := hC.1
  have hb := hC.2.1
  refine lv_iload hx hb dX12_feed_8 (lv_at hl 0 rfl) ?_
  refine lv_bipush (v := 24) hx hb dX12_feed_10 (by decide) ?_
  refine lv_icmp_ge (tgt := 120) hx hb dX12_feed_12 (by decide) (fun h => absurd h (by decide)) (fun _ => ?_)
  refine lv_iload hx hb dX12_feed_15 (lv_at hl 0 rfl) ?_
  refine lv_bipush (v := 8) hx hb dX12_feed_17 (by decide) ?_
  refine lv_icmp_ge (tgt := 26) hx hb dX12_feed_19 (by decide) (fun _ => ?_) (fun h => absurd (by decide) h)
  refine lv_iload hx hb dX12_feed_26 (lv_at hl 0 rfl) ?_
  refine lv_bipush (v := 16) hx hb dX12_feed_28 (by decide) ?_
  refine lv_icmp_ge (tgt := 37) hx hb dX12_feed_30 (by decide) (fun h => absurd h (by decide)) (fun _ => ?_)
  refine lv_lload_n hx hb dX12_feed_33 rfl (lv_at hl 3 rfl) ?_
  refine lv_goto (tgt := 39) hx hb dX12_feed_34 (by decide) ?_
  refine lv_lstore (lv' := [(8, .long vb), (7, .int 12), (0, .ref z), (1, .long va), (3, .long vb), (5, .long vc)]) hx hb dX12_feed_39 hl (by decide) rfl (fun ls hl => ?_)
  refine lv_lload hx hb dX12_feed_41 (lv_at hl 0 rfl) ?_
  refine lv_bipush (v := 56) hx hb dX12_feed_43 (by decide) ?_
  refine lv_bipush (v := 8) hx hb dX12_feed_45 (by decide) ?_
  refine lv_iload hx hb dX12_feed_47 (lv_at hl 1 rfl) ?_
  refine lv_bipush (v := 7) hx hb dX12_feed_49 (by decide) ?_
  refine lv_iand hx hb dX12_feed_51 ?_
  refine lv_topi (fun x_183 ex_183 => ?_)
  obtain rfl : x_183 = 4 := ex_183.trans (by decide)
  refine lv_imul hx hb dX12_feed_52 ?_
  refine lv_topi (fun x_184 ex_184 => ?_)
  obtain rfl : x_184 = 32 := ex_184.trans (by decide)
  refine lv_isub hx hb dX12_feed_53 ?_
  refine lv_topi (fun x_185 ex_185 => ?_)
  obtain rfl : x_185 = 24 := ex_185.trans (by decide)
  refine lv_lushr hx hb dX12_feed_54 rfl ?_
  refine lv_topl (fun x_186 ex_186 => ?_)
  refine k_ldc2 hC gw_1389 dX12_feed_55 ?_
  refine lv_land hx hb dX12_feed_58 ?_
  refine lv_topl (fun x_187 ex_187 => ?_)
  refine lv_l2i hx hb dX12_feed_59 rfl ?_
  refine lv_topi (fun x_188 ex_188 => ?_)
  refine lv_istore (lv' := [(10, .int x_188), (8, .long vb), (7, .int 12), (0, .ref z), (1, .long va), (3, .long vb), (5, .long vc)]) hx hb dX12_feed_60 hl (by decide) rfl (fun ls hl => ?_)
  have hk : x_188 = kby vb 24 := by rw [ex_188, ex_187, k_land, ex_186]; rfl
  refine lv_aload_n hx hb dX12_feed_62 rfl (lv_at hl 3 rfl) ?_
  refine fg_RX12_148 hC hw 0 rfl rfl dX12_feed_63 ?_
  refine lv_sipush (v := 1000) hx hb dX12_feed_66 (by decide) ?_
  refine lv_icmp_ge (tgt := 114) hx hb dX12_feed_69 (by decide) (fun c69 => ?_) (fun c69 => ?_)
  · have hfull : ¬ n < 1000 := fun h9 => absurd c69 (nI_ge h9 (by decide))
    refine lv_iinc (v := 13) (lv' := [(7, .int 13), (10, .int x_188), (8, .long vb), (0, .ref z), (1, .long va), (3, .long vb), (5, .long vc)]) hx hb dX12_feed_114 hl (k := 2) rfl (by decide) (by decide) rfl (fun ls hl => ?_)
    refine lv_goto (tgt := 8) hx hb dX12_feed_117 (by decide) ?_
    have hst : kst n (kby vb 24) = n := by rw [← hk]; exact (by first | exact kst_full hfull | exact kst_a c76 hlt | exact kst_b c83 c90 hlt | exact kst_lo c76 c83 | exact kst_hi c76 c90)
    have hup : kup f n (kby vb 24) = f := by rw [← hk]; exact (by first | exact kup_full hfull | exact kup_lo c76 c83 | exact kup_hi c76 c90)
    exact mf_13 z z2 z10 z11 z12 z13 z14 z15 z16 z17 z18 z19 z22 z23 z24 z25 z26 z27 z28 z29 z30 z31 z32 z33 z36 z37 z38 z39 z40 z41 z42 z43 z44 z45 z46 z47 z48 z55 z56 z59 z60 z61 n3 n4 n5 n6 n7 n8 n9 n20 n21 n34 n35 n49 n50 n51 n52 n53 n54 n57 n58 n62 n63 va vb vc n f (by omega) F G (by have h9 : kad vc 8 (kad vb 3 (kst n (kby vb 24))) = F := hF; rw [hst] at h9; exact h9) (by have h9 : kfa vc 8 (kad vb 3 (kst n (kby vb 24))) (kfa vb 3 (kst n (kby vb 24)) (kup f n (kby vb 24))) = G := hG; rw [hst, hup] at h9; exact h9) hC hr hlocks _ _ (kW.sub hw [0, 1] rfl rfl) _ (lv_sub hl [0, 3, 4, 5, 6] rfl)
  · have hlt : n < 1000 := by rcases Nat.lt_or_ge n 1000 with h9 | h9; exact h9; exact absurd (nI_le h9 (by omega)) c69
    refine lv_iload hx hb dX12_feed_72 (lv_at hl 0 rfl) ?_
    refine lv_bipush (v := 10) hx hb dX12_feed_74 (by decide) ?_
    refine lv_icmp_eq (tgt := 93) hx hb dX12_feed_76 (by decide) (fun c76 => ?_) (fun c76 => ?_)
    · refine lv_aload_n hx hb dX12_feed_93 rfl (lv_at hl 3 rfl) ?_
      refine fg_RX12_7 hC hw 0 rfl rfl dX12_feed_94 ?_
      refine lv_aload_n hx hb dX12_feed_97 rfl (lv_at hl 3 rfl) ?_
      refine fg_RX12_148 hC hw 0 rfl rfl dX12_feed_98 ?_
      refine lv_iload hx hb dX12_feed_101 (lv_at hl 0 rfl) ?_
      refine k_iast hC hw 1 rfl (vp_in_nI hlt (by decide)) dX12_feed_103 (fun H locs hw => ?_)
      obtain ⟨f_189, ef_189⟩ : ∃ g, g = upd f ((nI n) : Int32).toNatClampNeg x_188 := ⟨_, rfl⟩
      have hw : kW γ A [(z, .inr (11, [.int 0, .int (nI n), .ref z2, .int n3, .int n4, .int n5, .int n6, .long n7, .int n8, .int n9, .ref z10, .ref z11, .ref z12, .ref z13, .ref z14, .ref z15, .ref z16, .ref z17, .ref z18, .ref z19, .int n20, .int n21, .ref z22, .ref z23, .ref z24, .ref z25, .ref z26, .ref z27, .ref z28, .ref z29, .ref z30, .ref z31, .ref z32, .ref z33, .int n34, .long n35, .ref z36, .ref z37, .ref z38, .ref z39, .ref z40, .ref z41, .ref z42, .ref z43, .ref z44, .ref z45, .ref z46, .ref z47, .ref z48, .int n49, .int n50, .int n51, .int n52, .int n53, .int n54, .ref z55, .ref z56, .int n57, .int n58, .ref z59, .ref z60, .ref z61, .int n62, .long n63])), (z2, .inl (γ.2.1 0, 1000, .inl f_189))] s H locs := by rw [ef_189]; exact hw
      refine lv_aload_n hx hb dX12_feed_104 rfl (lv_at hl 3 rfl) ?_
      refine lv_dup hx hb dX12_feed_105 rfl ?_
      refine fg_RX12_148 hC hw 0 rfl rfl dX12_feed_106 ?_
      refine lv_iconst (v := 1) hx hb dX12_feed_109 (by decide) ?_
      refine lv_iadd hx hb dX12_feed_110 ?_
      refine lv_topi (fun x_190 ex_190 => ?_)
      obtain rfl : x_190 = (nI (n + 1)) := ex_190.trans (nI_1 n)
      refine fs_RX12_148 hC hw 0 rfl rfl rfl (Nat.le_of_ble_eq_true rfl) dX12_feed_111 (fun H locs hw => ?_)
      have hw : kW γ A [(z, .inr (11, [.int 0, .int (nI (n + 1)), .ref z2, .int n3, .int n4, .int n5, .int n6, .long n7, .int n8, .int n9, .ref z10, .ref z11, .ref z12, .ref z13, .ref z14, .ref z15, .ref z16, .ref z17, .ref z18, .ref z19, .int n20, .int n21, .ref z22, .ref z23, .ref z24, .ref z25, .ref z26, .ref z27, .ref z28, .ref z29, .ref z30, .ref z31, .ref z32, .ref z33, .int n34, .long n35, .ref z36, .ref z37, .ref z38, .ref z39, .ref z40, .ref z41, .ref z42, .ref z43, .ref z44, .ref z45, .ref z46, .ref z47, .ref z48, .int n49, .int n50, .int n51, .int n52, .int n53, .int n54, .ref z55, .ref z56, .int n57, .int n58, .ref z59, .ref z60, .ref z61, .int n62, .long n63])), (z2, .inl (γ.2.1 0, 1000, .inl f_189))] s H locs := hw
      refine lv_iinc (v := 13) (lv' := [(7, .int 13), (10, .int x_188), (8, .long vb), (0, .ref z), (1, .long va), (3, .long vb), (5, .long vc)]) hx hb dX12_feed_114 hl (k := 2) rfl (by decide) (by decide) rfl (fun ls hl => ?_)
      refine lv_goto (tgt := 8) hx hb dX12_feed_117 (by decide) ?_
      have hst : kst n (kby vb 24) = (n + 1) := by rw [← hk]; exact (by first | exact kst_full hfull | exact kst_a c76 hlt | exact kst_b c83 c90 hlt | exact kst_lo c76 c83 | exact kst_hi c76 c90)
      have hup : kup f n (kby vb 24) = f_189 := by rw [← hk, ef_189, nI_clamp (by omega)]; exact kup_y (by first | exact kok_a c76 | exact kok_b c83 c90) hlt
      exact mf_13 z z2 z10 z11 z12 z13 z14 z15 z16 z17 z18 z19 z22 z23 z24 z25 z26 z27 z28 z29 z30 z31 z32 z33 z36 z37 z38 z39 z40 z41 z42 z43 z44 z45 z46 z47 z48 z55 z56 z59 z60 z61 n3 n4 n5 n6 n7 n8 n9 n20 n21 n34 n35 n49 n50 n51 n52 n53 n54 n57 n58 n62 n63 va vb vc (n + 1) f_189 (by omega) F G (by have h9 : kad vc 8 (kad vb 3 (kst n (kby vb 24))) = F := hF; rw [hst] at h9; exact h9) (by have h9 : kfa vc 8 (kad vb 3 (kst n (kby vb 24))) (kfa vb 3 (kst n (kby vb 24)) (kup f n (kby vb 24))) = G := hG; rw [hst, hup] at h9; exact h9) hC hr hlocks _ _ (kW.sub hw [0, 1] rfl rfl) _ (lv_sub hl [0, 3, 4, 5, 6] rfl)
    · refine lv_iload hx hb dX12_feed_79 (lv_at hl 0 rfl) ?_
      refine lv_bipush (v := 32) hx hb dX12_feed_81 (by decide) ?_
      refine lv_icmp_lt (tgt := 114) hx hb dX12_feed_83 (by decide) (fun c83 => ?_) (fun c83 => ?_)
      · refine lv_iinc (v := 13) (lv' := [(7, .int 13), (10, .int x_188), (8, .long vb), (0, .ref z), (1, .long va), (3, .long vb), (5, .long vc)]) hx hb dX12_feed_114 hl (k := 2) rfl (by decide) (by decide) rfl (fun ls hl => ?_)
        refine lv_goto (tgt := 8) hx hb dX12_feed_117 (by decide) ?_
        have hst : kst n (kby vb 24) = n := by rw [← hk]; exact (by first | exact kst_full hfull | exact kst_a c76 hlt | exact kst_b c83 c90 hlt | exact kst_lo c76 c83 | exact kst_hi c76 c90)
        have hup : kup f n (kby vb 24) = f := by rw [← hk]; exact (by first | exact kup_full hfull | exact kup_lo c76 c83 | exact kup_hi c76 c90)
        exact mf_13 z z2 z10 z11 z12 z13 z14 z15 z16 z17 z18 z19 z22 z23 z24 z25 z26 z27 z28 z29 z30 z31 z32 z33 z36 z37 z38 z39 z40 z41 z42 z43 z44 z45 z46 z47 z48 z55 z56 z59 z60 z61 n3 n4 n5 n6 n7 n8 n9 n20 n21 n34 n35 n49 n50 n51 n52 n53 n54 n57 n58 n62 n63 va vb vc n f (by omega) F G (by have h9 : kad vc 8 (kad vb 3 (kst n (kby vb 24))) = F := hF; rw [hst] at h9; exact h9) (by have h9 : kfa vc 8 (kad vb 3 (kst n (kby vb 24))) (kfa vb 3 (kst n (kby vb 24)) (kup f n (kby vb 24))) = G := hG; rw [hst, hup] at h9; exact h9) hC hr hlocks _ _ (kW.sub hw [0, 1] rfl rfl) _ (lv_sub hl [0, 3, 4, 5, 6] rfl)
      · refine lv_iload hx hb dX12_feed_86 (lv_at hl 0 rfl) ?_
        refine lv_bipush (v := 126) hx hb dX12_feed_88 (by decide) ?_
        refine lv_icmp_gt (tgt := 114) hx hb dX12_feed_90 (by decide) (fun c90 => ?_) (fun c90 => ?_)
        · refine lv_iinc (v := 13) (lv' := [(7, .int 13), (10, .int x_188), (8, .long vb), (0, .ref z), (1, .long va), (3, .long vb), (5, .long vc)]) hx hb dX12_feed_114 hl (k := 2) rfl (by decide) (by decide) rfl (fun ls hl => ?_)
          refine lv_goto (tgt := 8) hx hb dX12_feed_117 (by decide) ?_
          have hst : kst n (kby vb 24) = n := by rw [← hk]; exact (by first | exact kst_full hfull | exact kst_a c76 hlt | exact kst_b c83 c90 hlt | exact kst_lo c76 c83 | exact kst_hi c76 c90)
          have hup : kup f n (kby vb 24) = f := by rw [← hk]; exact (by first | exact kup_full hfull | exact kup_lo c76 c83 | exact kup_hi c76 c90)
          exact mf_13 z z2 z10 z11 z12 z13 z14 z15 z16 z17 z18 z19 z22 z23 z24 z25 z26 z27 z28 z29 z30 z31 z32 z33 z36 z37 z38 z39 z40 z41 z42 z43 z44 z45 z46 z47 z48 z55 z56 z59 z60 z61 n3 n4 n5 n6 n7 n8 n9 n20 n21 n34 n35 n49 n50 n51 n52 n53 n54 n57 n58 n62 n63 va vb vc n f (by omega) F G (by have h9 : kad vc 8 (kad vb 3 (kst n (kby vb 24))) = F := hF; rw [hst] at h9; exact h9) (by have h9 : kfa vc 8 (kad vb 3 (kst n (kby vb 24))) (kfa vb 3 (kst n (kby vb 24)) (kup f n (kby vb 24))) = G := hG; rw [hst, hup] at h9; exact h9) hC hr hlocks _ _ (kW.sub hw [0, 1] rfl rfl) _ (lv_sub hl [0, 3, 4, 5, 6] rfl)
        · refine lv_aload_n hx hb dX12_feed_93 rfl (lv_at hl 3 rfl) ?_
          refine fg_RX12_7 hC hw 0 rfl rfl dX12_feed_94 ?_
          refine lv_aload_n hx hb dX12_feed_97 rfl (lv_at hl 3 rfl) ?_
          refine fg_RX12_148 hC hw 0 rfl rfl dX12_feed_98 ?_
          refine lv_iload hx hb dX12_feed_101 (lv_at hl 0 rfl) ?_
          refine k_iast hC hw 1 rfl (vp_in_nI hlt (by decide)) dX12_feed_103 (fun H locs hw => ?_)
          obtain ⟨f_191, ef_191⟩ : ∃ g, g = upd f ((nI n) : Int32).toNatClampNeg x_188 := ⟨_, rfl⟩
          have hw : kW γ A [(z, .inr (11, [.int 0, .int (nI n), .ref z2, .int n3, .int n4, .int n5, .int n6, .long n7, .int n8, .int n9, .ref z10, .ref z11, .ref z12, .ref z13, .ref z14, .ref z15, .ref z16, .ref z17, .ref z18, .ref z19, .int n20, .int n21, .ref z22, .ref z23, .ref z24, .ref z25, .ref z26, .ref z27, .ref z28, .ref z29, .ref z30, .ref z31, .ref z32, .ref z33, .int n34, .long n35, .ref z36, .ref z37, .ref z38, .ref z39, .ref z40, .ref z41, .ref z42, .ref z43, .ref z44, .ref z45, .ref z46, .ref z47, .ref z48, .int n49, .int n50, .int n51, .int n52, .int n53, .int n54, .ref z55, .ref z56, .int n57, .int n58, .ref z59, .ref z60, .ref z61, .int n62, .long n63])), (z2, .inl (γ.2.1 0, 1000, .inl f_191))] s H locs := by rw [ef_191]; exact hw
          refine lv_aload_n hx hb dX12_feed_104 rfl (lv_at hl 3 rfl) ?_
          refine lv_dup hx hb dX12_feed_105 rfl ?_
          refine fg_RX12_148 hC hw 0 rfl rfl dX12_feed_106 ?_
          refine lv_iconst (v := 1) hx hb dX12_feed_109 (by decide) ?_
          refine lv_iadd hx hb dX12_feed_110 ?_
          refine lv_topi (fun x_192 ex_192 => ?_)
          obtain rfl : x_192 = (nI (n + 1)) := ex_192.trans (nI_1 n)
          refine fs_RX12_148 hC hw 0 rfl rfl rfl (Nat.le_of_ble_eq_true rfl) dX12_feed_111 (fun H locs hw => ?_)
          have hw : kW γ A [(z, .inr (11, [.int 0, .int (nI (n + 1)), .ref z2, .int n3, .int n4, .int n5, .int n6, .long n7, .int n8, .int n9, .ref z10, .ref z11, .ref z12, .ref z13, .ref z14, .ref z15, .ref z16, .ref z17, .ref z18, .ref z19, .int n20, .int n21, .ref z22, .ref z23, .ref z24, .ref z25, .ref z26, .ref z27, .ref z28, .ref z29, .ref z30, .ref z31, .ref z32, .ref z33, .int n34, .long n35, .ref z36, .ref z37, .ref z38, .ref z39, .ref z40, .ref z41, .ref z42, .ref z43, .ref z44, .ref z45, .ref z46, .ref z47, .ref z48, .int n49, .int n50, .int n51, .int n52, .int n53, .int n54, .ref z55, .ref z56, .int n57, .int n58, .ref z59, .ref z60, .ref z61, .int n62, .long n63])), (z2, .inl (γ.2.1 0, 1000, .inl f_191))] s H locs := hw
          refine lv_iinc (v := 13) (lv' := [(7, .int 13), (10, .int x_188), (8, .long vb), (0, .ref z), (1, .long va), (3, .long vb), (5, .long vc)]) hx hb dX12_feed_114 hl (k := 2) rfl (by decide) (by decide) rfl (fun ls hl => ?_)
          refine lv_goto (tgt := 8) hx hb dX12_feed_117 (by decide) ?_
          have hst : kst n (kby vb 24) = (n + 1) := by rw [← hk]; exact (by first | exact kst_full hfull | exact kst_a c76 hlt | exact kst_b c83 c90 hlt | exact kst_lo c76 c83 | exact kst_hi c76 c90)
          have hup : kup f n (kby vb 24) = f_191 := by rw [← hk, ef_191, nI_clamp (by omega)]; exact kup_y (by first | exact kok_a c76 | exact kok_b c83 c90) hlt
          exact mf_13 z z2 z10 z11 z12 z13 z14 z15 z16 z17 z18 z19 z22 z23 z24 z25 z26 z27 z28 z29 z30 z31 z32 z33 z36 z37 z38 z39 z40 z41 z42 z43 z44 z45 z46 z47 z48 z55 z56 z59 z60 z61 n3 n4 n5 n6 n7 n8 n9 n20 n21 n34 n35 n49 n50 n51 n52 n53 n54 n57 n58 n62 n63 va vb vc (n + 1) f_191 (by omega) F G (by have h9 : kad vc 8 (kad vb 3 (kst n (kby vb 24))) = F := hF; rw [hst] at h9; exact h9) (by have h9 : kfa vc 8 (kad vb 3 (kst n (kby vb 24))) (kfa vb 3 (kst n (kby vb 24)) (kup f n (kby vb 24))) = G := hG; rw [hst, hup] at h9; exact h9) hC hr hlocks _ _ (kW.sub hw [0, 1] rfl rfl) _ (lv_sub hl [0, 3, 4, 5, 6] rfl)

set_option maxHeartbeats 4000000 in
set_option maxRecDepth 100000 in
theorem mf_11 {γ : kΓ} {l : Launch} {p : Program} {e : Env} {s : State} {m : MethodId} {below : List Frame} {meth : Method} {c : Code} {A : Nat → Prop} (z : Nat) (z2 : Nat) (z10 : Nat) (z11 : Nat) (z12 : Nat) (z13 : Nat) (z14 : Nat) (z15 : Nat) (z16 : Nat) (z17 : Nat) (z18 : Nat) (z19 : Nat) (z22 : Nat) (z23 : Nat) (z24 : Nat) (z25 : Nat) (z26 : Nat) (z27 : Nat) (z28 : Nat) (z29 : Nat) (z30 : Nat) (z31 : Nat) (z32 : Nat) (z33 : Nat) (z36 : Nat) (z37 : Nat) (z38 : Nat) (z39 : Nat) (z40 : Nat) (z41 : Nat) (z42 : Nat) (z43 : Nat) (z44 : Nat) (z45 : Nat) (z46 : Nat) (z47 : Nat) (z48 : Nat) (z55 : Nat) (z56 : Nat) (z59 : Nat) (z60 : Nat) (z61 : Nat) (n3 : Int32) (n4 : Int32) (n5 : Int32) (n6 : Int32) (n7 : Int64) (n8 : Int32) (n9 : Int32) (n20 : Int32) (n21 : Int32) (n34 : Int32) (n35 : Int64) (n49 : Int32) (n50 : Int32) (n51 : Int32) (n52 : Int32) (n53 : Int32) (n54 : Int32) (n57 : Int32) (n58 : Int32) (n62 : Int32) (n63 : Int64) (va : Int64) (vb : Int64) (vc : Int64) (n : Nat) (f : Nat → Int32) (hn : n ≤ 1000) (F : Nat) (G : Nat → Int32) (hF : kad vc 8 (kad vb 5 n) = F) (hG : kfa vc 8 (kad vb 5 n) (kfa vb 5 n f) = G) (hC : kC γ p s m [.ref z, .long va, .long vb, .long vc].toArray c cX12_feed 11 RX12 A) (hr : meth.sig.returnType = (some .int)) (hlocks : meth.locks = false) (H : Heap) (locs : List Loc) (hw : kW γ A [(z, .inr (11, [.int 0, .int (nI n), .ref z2, .int n3, .int n4, .int n5, .int n6, .long n7, .int n8, .int n9, .ref z10, .ref z11, .ref z12, .ref z13, .ref z14, .ref z15, .ref z16, .ref z17, .ref z18, .ref z19, .int n20, .int n21, .ref z22, .ref z23, .ref z24, .ref z25, .ref z26, .ref z27, .ref z28, .ref z29, .ref z30, .ref z31, .ref z32, .ref z33, .int n34, .long n35, .ref z36, .ref z37, .ref z38, .ref z39, .ref z40, .ref z41, .ref z42, .ref z43, .ref z44, .ref z45, .ref z46, .ref z47, .ref z48, .int n49, .int n50, .int n51, .int n52, .int n53, .int n54, .ref z55, .ref z56, .int n57, .int n58, .ref z59, .ref z60, .ref z61, .int n62, .long n63])), (z2, .inl (γ.2.1 0, 1000, .inl f))] s H locs) (ls : Array Slot) (hl : lv_has ls 11 [(7, .int 11), (0, .ref z), (1, .long va), (3, .long vb), (5, .long vc)]) : W p l e ({ frames := 0, cells := 0, slots := 0, locals := 0 } : Room) s m [.ref z, .long va, .long vb, .long vc].toArray below meth c H locs 0 0 (MQ below (kQ γ A (fun r w1 => r = some (.int (nI F)) ∧ w1 = [(z, .inr (11, [.int 0, .int (nI F), .ref z2, .int n3, .int n4, .int n5, .int n6, .long n7, .int n8, .int n9, .ref z10, .ref z11, .ref z12, .ref z13, .ref z14, .ref z15, .ref z16, .ref z17, .ref z18, .ref z19, .int n20, .int n21, .ref z22, .ref z23, .ref z24, .ref z25, .ref z26, .ref z27, .ref z28, .ref z29, .ref z30, .ref z31, .ref z32, .ref z33, .int n34, .long n35, .ref z36, .ref z37, .ref z38, .ref z39, .ref z40, .ref z41, .ref z42, .ref z43, .ref z44, .ref z45, .ref z46, .ref z47, .ref z48, .int n49, .int n50, .int n51, .int n52, .int n53, .int n54, .ref z55, .ref z56, .int n57, .int n58, .ref z59, .ref z60, .ref z61, .int n62, .long n63])), (z2, .inl (γ.2.1 0, 1000, .inl G))])) [.ref z, .long va, .long vb, .long vc].toArray s 0 0 A) (F0 m 8 ls []) := by
  have hx := hC.1
  have hb := hC.2.1
  refine lv_iload hx hb dX12_feed_8 (lv_at hl 0 rfl) ?_
  refine lv_bipush (v := 24) hx hb dX12_feed_10 (by decide) ?_
  refine lv_icmp_ge (tgt := 120) hx hb dX12_feed_12 (by decide) (fun h => absurd h (by decide)) (fun _ => ?_)
  refine lv_iload hx hb dX12_feed_15 (lv_at hl 0 rfl) ?_
  refine lv_bipush (v := 8) hx hb dX12_feed_17 (by decide) ?_
  refine lv_icmp_ge (tgt := 26) hx hb dX12_feed_19 (by decide) (fun _ => ?_) (fun h => absurd (by decide) h)
  refine lv_iload hx hb dX12_feed_26 (lv_at hl 0 rfl) ?_
  refine lv_bipush (v := 16) hx hb dX12_feed_28 (by decide) ?_
  refine lv_icmp_ge (tgt := 37) hx hb dX12_feed_30 (by decide) (fun h => absurd h (by decide)) (fun _ => ?_)
  refine lv_lload_n hx hb dX12_feed_33 rfl (lv_at hl 3 rfl) ?_
  refine lv_goto (tgt := 39) hx hb dX12_feed_34 (by decide) ?_
  refine lv_lstore (lv' := [(8, .long vb), (7, .int 11), (0, .ref z), (1, .long va), (3, .long vb), (5, .long vc)]) hx hb dX12_feed_39 hl (by decide) rfl (fun ls hl => ?_)
  refine lv_lload hx hb dX12_feed_41 (lv_at hl 0 rfl) ?_
  refine lv_bipush (v := 56) hx hb dX12_feed_43 (by decide) ?_
  refine lv_bipush (v := 8) hx hb dX12_feed_45 (by decide) ?_
  refine lv_iload hx hb dX12_feed_47 (lv_at hl 1 rfl) ?_
  refine lv_bipush (v := 7) hx hb dX12_feed_49 (by decide) ?_
  refine lv_iand hx hb dX12_feed_51 ?_
  refine lv_topi (fun x_193 ex_193 => ?_)
  obtain rfl : x_193 = 3 := ex_193.trans (by decide)
  refine lv_imul hx hb dX12_feed_52 ?_
  refine lv_topi (fun x_194 ex_194 => ?_)
  obtain rfl : x_194 = 24 := ex_194.trans (by decide)
  refine lv_isub hx hb dX12_feed_53 ?_
  refine lv_topi (fun x_195 ex_195 => ?_)
  obtain rfl : x_195 = 32 := ex_195.trans (by decide)
  refine lv_lushr hx hb dX12_feed_54 rfl ?_
  refine lv_topl (fun x_196 ex_196 => ?_)
  refine k_ldc2 hC gw_1389 dX12_feed_55 ?_
  refine lv_land hx hb dX12_feed_58 ?_
  refine lv_topl (fun x_197 ex_197 => ?_)
  refine lv_l2i hx hb dX12_feed_59 rfl ?_
  refine lv_topi (fun x_198 ex_198 => ?_)
  refine lv_istore (lv' := [(10, .int x_198), (8, .long vb), (7, .int 11), (0, .ref z), (1, .long va), (3, .long vb), (5, .long vc)]) hx hb dX12_feed_60 hl (by decide) rfl (fun ls hl => ?_)
  have hk : x_198 = kby vb 32 := by rw [ex_198, ex_197, k_land, ex_196]; rfl
  refine lv_aload_n hx hb dX12_feed_62 rfl (lv_at hl 3 rfl) ?_
  refine fg_RX12_148 hC hw 0 rfl rfl dX12_feed_63 ?_
  refine lv_sipush (v := 1000) hx hb dX12_feed_66 (by decide) ?_
  refine lv_icmp_ge (tgt := 114) hx hb dX12_feed_69 (by decide) (fun c69 => ?_) (fun c69 => ?_)
  · have hfull : ¬ n < 1000 := fun h9 => absurd c69 (nI_ge h9 (by decide))
    refine lv_iinc (v := 12) (lv' := [(7, .int 12), (10, .int x_198), (8, .long vb), (0, .ref z), (1, .long va), (3, .long vb), (5, .long vc)]) hx hb dX12_feed_114 hl (k := 2) rfl (by decide) (by decide) rfl (fun ls hl => ?_)
    refine lv_goto (tgt := 8) hx hb dX12_feed_117 (by decide) ?_
    have hst : kst n (kby vb 32) = n := by rw [← hk]; exact (by first | exact kst_full hfull | exact kst_a c76 hlt | exact kst_b c83 c90 hlt | exact kst_lo c76 c83 | exact kst_hi c76 c90)
    have hup : kup f n (kby vb 32) = f := by rw [← hk]; exact (by first | exact kup_full hfull | exact kup_lo c76 c83 | exact kup_hi c76 c90)
    exact mf_12 z z2 z10 z11 z12 z13 z14 z15 z16 z17 z18 z19 z22 z23 z24 z25 z26 z27 z28 z29 z30 z31 z32 z33 z36 z37 z38 z39 z40 z41 z42 z43 z44 z45 z46 z47 z48 z55 z56 z59 z60 z61 n3 n4 n5 n6 n7 n8 n9 n20 n21 n34 n35 n49 n50 n51 n52 n53 n54 n57 n58 n62 n63 va vb vc n f (by omega) F G (by have h9 : kad vc 8 (kad vb 4 (kst n (kby vb 32))) = F := hF; rw [hst] at h9; exact h9) (by have h9 : kfa vc 8 (kad vb 4 (kst n (kby vb 32))) (kfa vb 4 (kst n (kby vb 32)) (kup f n (kby vb 32))) = G := hG; rw [hst, hup] at h9; exact h9) hC hr hlocks _ _ (kW.sub hw [0, 1] rfl rfl) _ (lv_sub hl [0, 3, 4, 5, 6] rfl)
  · have hlt : n < 1000 := by rcases Nat.lt_or_ge n 1000 with h9 | h9; exact h9; exact absurd (nI_le h9 (by omega)) c69
    refine lv_iload hx hb dX12_feed_72 (lv_at hl 0 rfl) ?_
    refine lv_bipush (v := 10) hx hb dX12_feed_74 (by decide) ?_
    refine lv_icmp_eq (tgt := 93) hx hb dX12_feed_76 (by decide) (fun c76 => ?_) (fun c76 => ?_)
    · refine lv_aload_n hx hb dX12_feed_93 rfl (lv_at hl 3 rfl) ?_
      refine fg_RX12_7 hC hw 0 rfl rfl dX12_feed_94 ?_
      refine lv_aload_n hx hb dX12_feed_97 rfl (lv_at hl 3 rfl) ?_
      refine fg_RX12_148 hC hw 0 rfl rfl dX12_feed_98 ?_
      refine lv_iload hx hb dX12_feed_101 (lv_at hl 0 rfl) ?_
      refine k_iast hC hw 1 rfl (vp_in_nI hlt (by decide)) dX12_feed_103 (fun H locs hw => ?_)
      obtain ⟨f_199, ef_199⟩ : ∃ g, g = upd f ((nI n) : Int32).toNatClampNeg x_198 := ⟨_, rfl⟩
      have hw : kW γ A [(z, .inr (11, [.int 0, .int (nI n), .ref z2, .int n3, .int n4, .int n5, .int n6, .long n7, .int n8, .int n9, .ref z10, .ref z11, .ref z12, .ref z13, .ref z14, .ref z15, .ref z16, .ref z17, .ref z18, .ref z19, .int n20, .int n21, .ref z22, .ref z23, .ref z24, .ref z25, .ref z26, .ref z27, .ref z28, .ref z29, .ref z30, .ref z31, .ref z32, .ref z33, .int n34, .long n35, .ref z36, .ref z37, .ref z38, .ref z39, .ref z40, .ref z41, .ref z42, .ref z43, .ref z44, .ref z45, .ref z46, .ref z47, .ref z48, .int n49, .int n50, .int n51, .int n52, .int n53, .int n54, .ref z55, .ref z56, .int n57, .int n58, .ref z59, .ref z60, .ref z61, .int n62, .long n63])), (z2, .inl (γ.2.1 0, 1000, .inl f_199))] s H locs := by rw [ef_199]; exact hw
      refine lv_aload_n hx hb dX12_feed_104 rfl (lv_at hl 3 rfl) ?_
      refine lv_dup hx hb dX12_feed_105 rfl ?_
      refine fg_RX12_148 hC hw 0 rfl rfl dX12_feed_106 ?_
      refine lv_iconst (v := 1) hx hb dX12_feed_109 (by decide) ?_
      refine lv_iadd hx hb dX12_feed_110 ?_
      refine lv_topi (fun x_200 ex_200 => ?_)
      obtain rfl : x_200 = (nI (n + 1)) := ex_200.trans (nI_1 n)
      refine fs_RX12_148 hC hw 0 rfl rfl rfl (Nat.le_of_ble_eq_true rfl) dX12_feed_111 (fun H locs hw => ?_)
      have hw : kW γ A [(z, .inr (11, [.int 0, .int (nI (n + 1)), .ref z2, .int n3, .int n4, .int n5, .int n6, .long n7, .int n8, .int n9, .ref z10, .ref z11, .ref z12, .ref z13, .ref z14, .ref z15, .ref z16, .ref z17, .ref z18, .ref z19, .int n20, .int n21, .ref z22, .ref z23, .ref z24, .ref z25, .ref z26, .ref z27, .ref z28, .ref z29, .ref z30, .ref z31, .ref z32, .ref z33, .int n34, .long n35, .ref z36, .ref z37, .ref z38, .ref z39, .ref z40, .ref z41, .ref z42, .ref z43, .ref z44, .ref z45, .ref z46, .ref z47, .ref z48, .int n49, .int n50, .int n51, .int n52, .int n53, .int n54, .ref z55, .ref z56, .int n57, .int n58, .ref z59, .ref z60, .ref z61, .int n62, .long n63])), (z2, .inl (γ.2.1 0, 1000, .inl f_199))] s H locs := hw
      refine lv_iinc (v := 12) (lv' := [(7, .int 12), (10, .int x_198), (8, .long vb), (0, .ref z), (1, .long va), (3, .long vb), (5, .long vc)]) hx hb dX12_feed_114 hl (k := 2) rfl (by decide) (by decide) rfl (fun ls hl => ?_)
      refine lv_goto (tgt := 8) hx hb dX12_feed_117 (by decide) ?_
      have hst : kst n (kby vb 32) = (n + 1) := by rw [← hk]; exact (by first | exact kst_full hfull | exact kst_a c76 hlt | exact kst_b c83 c90 hlt | exact kst_lo c76 c83 | exact kst_hi c76 c90)
      have hup : kup f n (kby vb 32) = f_199 := by rw [← hk, ef_199, nI_clamp (by omega)]; exact kup_y (by first | exact kok_a c76 | exact kok_b c83 c90) hlt
      exact mf_12 z z2 z10 z11 z12 z13 z14 z15 z16 z17 z18 z19 z22 z23 z24 z25 z26 z27 z28 z29 z30 z31 z32 z33 z36 z37 z38 z39 z40 z41 z42 z43 z44 z45 z46 z47 z48 z55 z56 z59 z60 z61 n3 n4 n5 n6 n7 n8 n9 n20 n21 n34 n35 n49 n50 n51 n52 n53 n54 n57 n58 n62 n63 va vb vc (n + 1) f_199 (by omega) F G (by have h9 : kad vc 8 (kad vb 4 (kst n (kby vb 32))) = F := hF; rw [hst] at h9; exact h9) (by have h9 : kfa vc 8 (kad vb 4 (kst n (kby vb 32))) (kfa vb 4 (kst n (kby vb 32)) (kup f n (kby vb 32))) = G := hG; rw [hst, hup] at h9; exact h9) hC hr hlocks _ _ (kW.sub hw [0, 1] rfl rfl) _ (lv_sub hl [0, 3, 4, 5, 6] rfl)
    · refine lv_iload hx hb dX12_feed_79 (lv_at hl 0 rfl) ?_
      refine lv_bipush (v := 32) hx hb dX12_feed_81 (by decide) ?_
      refine lv_icmp_lt (tgt := 114) hx hb dX12_feed_83 (by decide) (fun c83 => ?_) (fun c83 => ?_)
      · refine lv_iinc (v := 12) (lv' := [(7, .int 12), (10, .int x_198), (8, .long vb), (0, .ref z), (1, .long va), (3, .long vb), (5, .long vc)]) hx hb dX12_feed_114 hl (k := 2) rfl (by decide) (by decide) rfl (fun ls hl => ?_)
        refine lv_goto (tgt := 8) hx hb dX12_feed_117 (by decide) ?_
        have hst : kst n (kby vb 32) = n := by rw [← hk]; exact (by first | exact kst_full hfull | exact kst_a c76 hlt | exact kst_b c83 c90 hlt | exact kst_lo c76 c83 | exact kst_hi c76 c90)
        have hup : kup f n (kby vb 32) = f := by rw [← hk]; exact (by first | exact kup_full hfull | exact kup_lo c76 c83 | exact kup_hi c76 c90)
        exact mf_12 z z2 z10 z11 z12 z13 z14 z15 z16 z17 z18 z19 z22 z23 z24 z25 z26 z27 z28 z29 z30 z31 z32 z33 z36 z37 z38 z39 z40 z41 z42 z43 z44 z45 z46 z47 z48 z55 z56 z59 z60 z61 n3 n4 n5 n6 n7 n8 n9 n20 n21 n34 n35 n49 n50 n51 n52 n53 n54 n57 n58 n62 n63 va vb vc n f (by omega) F G (by have h9 : kad vc 8 (kad vb 4 (kst n (kby vb 32))) = F := hF; rw [hst] at h9; exact h9) (by have h9 : kfa vc 8 (kad vb 4 (kst n (kby vb 32))) (kfa vb 4 (kst n (kby vb 32)) (kup f n (kby vb 32))) = G := hG; rw [hst, hup] at h9; exact h9) hC hr hlocks _ _ (kW.sub hw [0, 1] rfl rfl) _ (lv_sub hl [0, 3, 4, 5, 6] rfl)
      · refine lv_iload hx hb dX12_feed_86 (lv_at hl 0 rfl) ?_
        refine lv_bipush (v := 126) hx hb dX12_feed_88 (by decide) ?_
        refine lv_icmp_gt (tgt := 114) hx hb dX12_feed_90 (by decide) (fun c90 => ?_) (fun c90 => ?_)
        · refine lv_iinc (v := 12) (lv' := [(7, .int 12), (10, .int x_198), (8, .long vb), (0, .ref z), (1, .long va), (3, .long vb), (5, .long vc)]) hx hb dX12_feed_114 hl (k := 2) rfl (by decide) (by decide) rfl (fun ls hl => ?_)
          refine lv_goto (tgt := 8) hx hb dX12_feed_117 (by decide) ?_
          have hst : kst n (kby vb 32) = n := by rw [← hk]; exact (by first | exact kst_full hfull | exact kst_a c76 hlt | exact kst_b c83 c90 hlt | exact kst_lo c76 c83 | exact kst_hi c76 c90)
          have hup : kup f n (kby vb 32) = f := by rw [← hk]; exact (by first | exact kup_full hfull | exact kup_lo c76 c83 | exact kup_hi c76 c90)
          exact mf_12 z z2 z10 z11 z12 z13 z14 z15 z16 z17 z18 z19 z22 z23 z24 z25 z26 z27 z28 z29 z30 z31 z32 z33 z36 z37 z38 z39 z40 z41 z42 z43 z44 z45 z46 z47 z48 z55 z56 z59 z60 z61 n3 n4 n5 n6 n7 n8 n9 n20 n21 n34 n35 n49 n50 n51 n52 n53 n54 n57 n58 n62 n63 va vb vc n f (by omega) F G (by have h9 : kad vc 8 (kad vb 4 (kst n (kby vb 32))) = F := hF; rw [hst] at h9; exact h9) (by have h9 : kfa vc 8 (kad vb 4 (kst n (kby vb 32))) (kfa vb 4 (kst n (kby vb 32)) (kup f n (kby vb 32))) = G := hG; rw [hst, hup] at h9; exact h9) hC hr hlocks _ _ (kW.sub hw [0, 1] rfl rfl) _ (lv_sub hl [0, 3, 4, 5, 6] rfl)
        · refine lv_aload_n hx hb dX12_feed_93 rfl (lv_at hl 3 rfl) ?_
          refine fg_RX12_7 hC hw 0 rfl rfl dX12_feed_94 ?_
          refine lv_aload_n hx hb dX12_feed_97 rfl (lv_at hl 3 rfl) ?_
          refine fg_RX12_148 hC hw 0 rfl rfl dX12_feed_98 ?_
          refine lv_iload hx hb dX12_feed_101 (lv_at hl 0 rfl) ?_
          refine k_iast hC hw 1 rfl (vp_in_nI hlt (by decide)) dX12_feed_103 (fun H locs hw => ?_)
          obtain ⟨f_201, ef_201⟩ : ∃ g, g = upd f ((nI n) : Int32).toNatClampNeg x_198 := ⟨_, rfl⟩
          have hw : kW γ A [(z, .inr (11, [.int 0, .int (nI n), .ref z2, .int n3, .int n4, .int n5, .int n6, .long n7, .int n8, .int n9, .ref z10, .ref z11, .ref z12, .ref z13, .ref z14, .ref z15, .ref z16, .ref z17, .ref z18, .ref z19, .int n20, .int n21, .ref z22, .ref z23, .ref z24, .ref z25, .ref z26, .ref z27, .ref z28, .ref z29, .ref z30, .ref z31, .ref z32, .ref z33, .int n34, .long n35, .ref z36, .ref z37, .ref z38, .ref z39, .ref z40, .ref z41, .ref z42, .ref z43, .ref z44, .ref z45, .ref z46, .ref z47, .ref z48, .int n49, .int n50, .int n51, .int n52, .int n53, .int n54, .ref z55, .ref z56, .int n57, .int n58, .ref z59, .ref z60, .ref z61, .int n62, .long n63])), (z2, .inl (γ.2.1 0, 1000, .inl f_201))] s H locs := by rw [ef_201]; exact hw
          refine lv_aload_n hx hb dX12_feed_104 rfl (lv_at hl 3 rfl) ?_
          refine lv_dup hx hb dX12_feed_105 rfl ?_
          refine fg_RX12_148 hC hw 0 rfl rfl dX12_feed_106 ?_
          refine lv_iconst (v := 1) hx hb dX12_feed_109 (by decide) ?_
          refine lv_iadd hx hb dX12_feed_110 ?_
          refine lv_topi (fun x_202 ex_202 => ?_)
          obtain rfl : x_202 = (nI (n + 1)) := ex_202.trans (nI_1 n)
          refine fs_RX12_148 hC hw 0 rfl rfl rfl (Nat.le_of_ble_eq_true rfl) dX12_feed_111 (fun H locs hw => ?_)
          have hw : kW γ A [(z, .inr (11, [.int 0, .int (nI (n + 1)), .ref z2, .int n3, .int n4, .int n5, .int n6, .long n7, .int n8, .int n9, .ref z10, .ref z11, .ref z12, .ref z13, .ref z14, .ref z15, .ref z16, .ref z17, .ref z18, .ref z19, .int n20, .int n21, .ref z22, .ref z23, .ref z24, .ref z25, .ref z26, .ref z27, .ref z28, .ref z29, .ref z30, .ref z31, .ref z32, .ref z33, .int n34, .long n35, .ref z36, .ref z37, .ref z38, .ref z39, .ref z40, .ref z41, .ref z42, .ref z43, .ref z44, .ref z45, .ref z46, .ref z47, .ref z48, .int n49, .int n50, .int n51, .int n52, .int n53, .int n54, .ref z55, .ref z56, .int n57, .int n58, .ref z59, .ref z60, .ref z61, .int n62, .long n63])), (z2, .inl (γ.2.1 0, 1000, .inl f_201))] s H locs := hw
          refine lv_iinc (v := 12) (lv' := [(7, .int 12), (10, .int x_198), (8, .long vb), (0, .ref z), (1, .long va), (3, .long vb), (5, .long vc)]) hx hb dX12_feed_114 hl (k := 2) rfl (by decide) (by decide) rfl (fun ls hl => ?_)
          refine lv_goto (tgt := 8) hx hb dX12_feed_117 (by decide) ?_
          have hst : kst n (kby vb 32) = (n + 1) := by rw [← hk]; exact (by first | exact kst_full hfull | exact kst_a c76 hlt | exact kst_b c83 c90 hlt | exact kst_lo c76 c83 | exact kst_hi c76 c90)
          have hup : kup f n (kby vb 32) = f_201 := by rw [← hk, ef_201, nI_clamp (by omega)]; exact kup_y (by first | exact kok_a c76 | exact kok_b c83 c90) hlt
          exact mf_12 z z2 z10 z11 z12 z13 z14 z15 z16 z17 z18 z19 z22 z23 z24 z25 z26 z27 z28 z29 z30 z31 z32 z33 z36 z37 z38 z39 z40 z41 z42 z43 z44 z45 z46 z47 z48 z55 z56 z59 z60 z61 n3 n4 n5 n6 n7 n8 n9 n20 n21 n34 n35 n49 n50 n51 n52 n53 n54 n57 n58 n62 n63 va vb vc (n + 1) f_201 (by omega) F G (by have h9 : kad vc 8 (kad vb 4 (kst n (kby vb 32))) = F := hF; rw [hst] at h9; exact h9) (by have h9 : kfa vc 8 (kad vb 4 (kst n (kby vb 32))) (kfa vb 4 (kst n (kby vb 32)) (kup f n (kby vb 32))) = G := hG; rw [hst, hup] at h9; exact h9) hC hr hlocks _ _ (kW.sub hw [0, 1] rfl rfl) _ (lv_sub hl [0, 3, 4, 5, 6] rfl)

set_option maxHeartbeats 4000000 in
set_option maxRecDepth 100000 in
theorem mf_10 {γ : kΓ} {l : Launch} {p : Program} {e : Env} {s : State} {m : MethodId} {below : List Frame} {meth : Method} {c : Code} {A : Nat → Prop} (z : Nat) (z2 : Nat) (z10 : Nat) (z11 : Nat) (z12 : Nat) (z13 : Nat) (z14 : Nat) (z15 : Nat) (z16 : Nat) (z17 : Nat) (z18 : Nat) (z19 : Nat) (z22 : Nat) (z23 : Nat) (z24 : Nat) (z25 : Nat) (z26 : Nat) (z27 : Nat) (z28 : Nat) (z29 : Nat) (z30 : Nat) (z31 : Nat) (z32 : Nat) (z33 : Nat) (z36 : Nat) (z37 : Nat) (z38 : Nat) (z39 : Nat) (z40 : Nat) (z41 : Nat) (z42 : Nat) (z43 : Nat) (z44 : Nat) (z45 : Nat) (z46 : Nat) (z47 : Nat) (z48 : Nat) (z55 : Nat) (z56 : Nat) (z59 : Nat) (z60 : Nat) (z61 : Nat) (n3 : Int32) (n4 : Int32) (n5 : Int32) (n6 : Int32) (n7 : Int64) (n8 : Int32) (n9 : Int32) (n20 : Int32) (n21 : Int32) (n34 : Int32) (n35 : Int64) (n49 : Int32) (n50 : Int32) (n51 : Int32) (n52 : Int32) (n53 : Int32) (n54 : Int32) (n57 : Int32) (n58 : Int32) (n62 : Int32) (n63 : Int64) (va : Int64) (vb : Int64) (vc : Int64) (n : Nat) (f : Nat → Int32) (hn : n ≤ 1000) (F : Nat) (G : Nat → Int32) (hF : kad vc 8 (kad vb 6 n) = F) (hG : kfa vc 8 (kad vb 6 n) (kfa vb 6 n f) = G) (hC : kC γ p s m [.ref z, .long va, .long vb, .long vc].toArray c cX12_feed 11 RX12 A) (hr : meth.sig.returnType = (some .int)) (hlocks : meth.locks = false) (H : Heap) (locs : List Loc) (hw : kW γ A [(z, .inr (11, [.int 0, .int (nI n), .ref z2, .int n3, .int n4, .int n5, .int n6, .long n7, .int n8, .int n9, .ref z10, .ref z11, .ref z12, .ref z13, .ref z14, .ref z15, .ref z16, .ref z17, .ref z18, .ref z19, .int n20, .int n21, .ref z22, .ref z23, .ref z24, .ref z25, .ref z26, .ref z27, .ref z28, .ref z29, .ref z30, .ref z31, .ref z32, .ref z33, .int n34, .long n35, .ref z36, .ref z37, .ref z38, .ref z39, .ref z40, .ref z41, .ref z42, .ref z43, .ref z44, .ref z45, .ref z46, .ref z47, .ref z48, .int n49, .int n50, .int n51, .int n52, .int n53, .int n54, .ref z55, .ref z56, .int n57, .int n58, .ref z59, .ref z60, .ref z61, .int n62, .long n63])), (z2, .inl (γ.2.1 0, 1000, .inl f))] s H locs) (ls : Array Slot) (hl : lv_has ls 11 [(7, .int 10), (0, .ref z), (1, .long va), (3, .long vb), (5, .long vc)]) : W p l e ({ frames := 0, cells := 0, slots := 0, locals := 0 } : Room) s m [.ref z, .long va, .long vb, .long vc].toArray below meth c H locs 0 0 (MQ below (kQ γ A (fun r w1 => r = some (.int (nI F)) ∧ w1 = [(z, .inr (11, [.int 0, .int (nI F), .ref z2, .int n3, .int n4, .int n5, .int n6, .long n7, .int n8, .int n9, .ref z10, .ref z11, .ref z12, .ref z13, .ref z14, .ref z15, .ref z16, .ref z17, .ref z18, .ref z19, .int n20, .int n21, .ref z22, .ref z23, .ref z24, .ref z25, .ref z26, .ref z27, .ref z28, .ref z29, .ref z30, .ref z31, .ref z32, .ref z33, .int n34, .long n35, .ref z36, .ref z37, .ref z38, .ref z39, .ref z40, .ref z41, .ref z42, .ref z43, .ref z44, .ref z45, .ref z46, .ref z47, .ref z48, .int n49, .int n50, .int n51, .int n52, .int n53, .int n54, .ref z55, .ref z56, .int n57, .int n58, .ref z59, .ref z60, .ref z61, .int n62, .long n63])), (z2, .inl (γ.2.1 0, 1000, .inl G))])) [.ref z, .long va, .long vb, .long vc].toArray s 0 0 A) (F0 m 8 ls []) := by
  have hx := hC.1
  have hb := hC.2.1
  refine lv_iload hx hb dX12_feed_8 (lv_at hl 0 rfl) ?_
  refine lv_bipush (v := 24) hx hb dX12_feed_10 (by decide) ?_
  refine lv_icmp_ge (tgt := 120) hx hb dX12_feed_12 (by decide) (fun h => absurd h (by decide)) (fun _ => ?_)
  refine lv_iload hx hb dX12_feed_15 (lv_at hl 0 rfl) ?_
  refine lv_bipush (v := 8) hx hb dX12_feed_17 (by decide) ?_
  refine lv_icmp_ge (tgt := 26) hx hb dX12_feed_19 (by decide) (fun _ => ?_) (fun h => absurd (by decide) h)
  refine lv_iload hx hb dX12_feed_26 (lv_at hl 0 rfl) ?_
  refine lv_bipush (v := 16) hx hb dX12_feed_28 (by decide) ?_
  refine lv_icmp_ge (tgt := 37) hx hb dX12_feed_30 (by decide) (fun h => absurd h (by decide)) (fun _ => ?_)
  refine lv_lload_n hx hb dX12_feed_33 rfl (lv_at hl 3 rfl) ?_
  refine lv_goto (tgt := 39) hx hb dX12_feed_34 (by decide) ?_
  refine lv_lstore (lv' := [(8, .long vb), (7, .int 10), (0, .ref z), (1, .long va), (3, .long vb), (5, .long vc)]) hx hb dX12_feed_39 hl (by decide) rfl (fun ls hl => ?_)
  refine lv_lload hx hb dX12_feed_41 (lv_at hl 0 rfl) ?_
  refine lv_bipush (v := 56) hx hb dX12_feed_43 (by decide) ?_
  refine lv_bipush (v := 8) hx hb dX12_feed_45 (by decide) ?_
  refine lv_iload hx hb dX12_feed_47 (lv_at hl 1 rfl) ?_
  refine lv_bipush (v := 7) hx hb dX12_feed_49 (by decide) ?_
  refine lv_iand hx hb dX12_feed_51 ?_
  refine lv_topi (fun x_203 ex_203 => ?_)
  obtain rfl : x_203 = 2 := ex_203.trans (by decide)
  refine lv_imul hx hb dX12_feed_52 ?_
  refine lv_topi (fun x_204 ex_204 => ?_)
  obtain rfl : x_204 = 16 := ex_204.trans (by decide)
  refine lv_isub hx hb dX12_feed_53 ?_
  refine lv_topi (fun x_205 ex_205 => ?_)
  obtain rfl : x_205 = 40 := ex_205.trans (by decide)
  refine lv_lushr hx hb dX12_feed_54 rfl ?_
  refine lv_topl (fun x_206 ex_206 => ?_)
  refine k_ldc2 hC gw_1389 dX12_feed_55 ?_
  refine lv_land hx hb dX12_feed_58 ?_
  refine lv_topl (fun x_207 ex_207 => ?_)
  refine lv_l2i hx hb dX12_feed_59 rfl ?_
  refine lv_topi (fun x_208 ex_208 => ?_)
  refine lv_istore (lv' := [(10, .int x_208), (8, .long vb), (7, .int 10), (0, .ref z), (1, .long va), (3, .long vb), (5, .long vc)]) hx hb dX12_feed_60 hl (by decide) rfl (fun ls hl => ?_)
  have hk : x_208 = kby vb 40 := by rw [ex_208, ex_207, k_land, ex_206]; rfl
  refine lv_aload_n hx hb dX12_feed_62 rfl (lv_at hl 3 rfl) ?_
  refine fg_RX12_148 hC hw 0 rfl rfl dX12_feed_63 ?_
  refine lv_sipush (v := 1000) hx hb dX12_feed_66 (by decide) ?_
  refine lv_icmp_ge (tgt := 114) hx hb dX12_feed_69 (by decide) (fun c69 => ?_) (fun c69 => ?_)
  · have hfull : ¬ n < 1000 := fun h9 => absurd c69 (nI_ge h9 (by decide))
    refine lv_iinc (v := 11) (lv' := [(7, .int 11), (10, .int x_208), (8, .long vb), (0, .ref z), (1, .long va), (3, .long vb), (5, .long vc)]) hx hb dX12_feed_114 hl (k := 2) rfl (by decide) (by decide) rfl (fun ls hl => ?_)
    refine lv_goto (tgt := 8) hx hb dX12_feed_117 (by decide) ?_
    have hst : kst n (kby vb 40) = n := by rw [← hk]; exact (by first | exact kst_full hfull | exact kst_a c76 hlt | exact kst_b c83 c90 hlt | exact kst_lo c76 c83 | exact kst_hi c76 c90)
    have hup : kup f n (kby vb 40) = f := by rw [← hk]; exact (by first | exact kup_full hfull | exact kup_lo c76 c83 | exact kup_hi c76 c90)
    exact mf_11 z z2 z10 z11 z12 z13 z14 z15 z16 z17 z18 z19 z22 z23 z24 z25 z26 z27 z28 z29 z30 z31 z32 z33 z36 z37 z38 z39 z40 z41 z42 z43 z44 z45 z46 z47 z48 z55 z56 z59 z60 z61 n3 n4 n5 n6 n7 n8 n9 n20 n21 n34 n35 n49 n50 n51 n52 n53 n54 n57 n58 n62 n63 va vb vc n f (by omega) F G (by have h9 : kad vc 8 (kad vb 5 (kst n (kby vb 40))) = F := hF; rw [hst] at h9; exact h9) (by have h9 : kfa vc 8 (kad vb 5 (kst n (kby vb 40))) (kfa vb 5 (kst n (kby vb 40)) (kup f n (kby vb 40))) = G := hG; rw [hst, hup] at h9; exact h9) hC hr hlocks _ _ (kW.sub hw [0, 1] rfl rfl) _ (lv_sub hl [0, 3, 4, 5, 6] rfl)
  · have hlt : n < 1000 := by rcases Nat.lt_or_ge n 1000 with h9 | h9; exact h9; exact absurd (nI_le h9 (by omega)) c69
    refine lv_iload hx hb dX12_feed_72 (lv_at hl 0 rfl) ?_
    refine lv_bipush (v := 10) hx hb dX12_feed_74 (by decide) ?_
    refine lv_icmp_eq (tgt := 93) hx hb dX12_feed_76 (by decide) (fun c76 => ?_) (fun c76 => ?_)
    · refine lv_aload_n hx hb dX12_feed_93 rfl (lv_at hl 3 rfl) ?_
      refine fg_RX12_7 hC hw 0 rfl rfl dX12_feed_94 ?_
      refine lv_aload_n hx hb dX12_feed_97 rfl (lv_at hl 3 rfl) ?_
      refine fg_RX12_148 hC hw 0 rfl rfl dX12_feed_98 ?_
      refine lv_iload hx hb dX12_feed_101 (lv_at hl 0 rfl) ?_
      refine k_iast hC hw 1 rfl (vp_in_nI hlt (by decide)) dX12_feed_103 (fun H locs hw => ?_)
      obtain ⟨f_209, ef_209⟩ : ∃ g, g = upd f ((nI n) : Int32).toNatClampNeg x_208 := ⟨_, rfl⟩
      have hw : kW γ A [(z, .inr (11, [.int 0, .int (nI n), .ref z2, .int n3, .int n4, .int n5, .int n6, .long n7, .int n8, .int n9, .ref z10, .ref z11, .ref z12, .ref z13, .ref z14, .ref z15, .ref z16, .ref z17, .ref z18, .ref z19, .int n20, .int n21, .ref z22, .ref z23, .ref z24, .ref z25, .ref z26, .ref z27, .ref z28, .ref z29, .ref z30, .ref z31, .ref z32, .ref z33, .int n34, .long n35, .ref z36, .ref z37, .ref z38, .ref z39, .ref z40, .ref z41, .ref z42, .ref z43, .ref z44, .ref z45, .ref z46, .ref z47, .ref z48, .int n49, .int n50, .int n51, .int n52, .int n53, .int n54, .ref z55, .ref z56, .int n57, .int n58, .ref z59, .ref z60, .ref z61, .int n62, .long n63])), (z2, .inl (γ.2.1 0, 1000, .inl f_209))] s H locs := by rw [ef_209]; exact hw
      refine lv_aload_n hx hb dX12_feed_104 rfl (lv_at hl 3 rfl) ?_
      refine lv_dup hx hb dX12_feed_105 rfl ?_
      refine fg_RX12_148 hC hw 0 rfl rfl dX12_feed_106 ?_
      refine lv_iconst (v := 1) hx hb dX12_feed_109 (by decide) ?_
      refine lv_iadd hx hb dX12_feed_110 ?_
      refine lv_topi (fun x_210 ex_210 => ?_)
      obtain rfl : x_210 = (nI (n + 1)) := ex_210.trans (nI_1 n)
      refine fs_RX12_148 hC hw 0 rfl rfl rfl (Nat.le_of_ble_eq_true rfl) dX12_feed_111 (fun H locs hw => ?_)
      have hw : kW γ A [(z, .inr (11, [.int 0, .int (nI (n + 1)), .ref z2, .int n3, .int n4, .int n5, .int n6, .long n7, .int n8, .int n9, .ref z10, .ref z11, .ref z12, .ref z13, .ref z14, .ref z15, .ref z16, .ref z17, .ref z18, .ref z19, .int n20, .int n21, .ref z22, .ref z23, .ref z24, .ref z25, .ref z26, .ref z27, .ref z28, .ref z29, .ref z30, .ref z31, .ref z32, .ref z33, .int n34, .long n35, .ref z36, .ref z37, .ref z38, .ref z39, .ref z40, .ref z41, .ref z42, .ref z43, .ref z44, .ref z45, .ref z46, .ref z47, .ref z48, .int n49, .int n50, .int n51, .int n52, .int n53, .int n54, .ref z55, .ref z56, .int n57, .int n58, .ref z59, .ref z60, .ref z61, .int n62, .long n63])), (z2, .inl (γ.2.1 0, 1000, .inl f_209))] s H locs := hw
      refine lv_iinc (v := 11) (lv' := [(7, .int 11), (10, .int x_208), (8, .long vb), (0, .ref z), (1, .long va), (3, .long vb), (5, .long vc)]) hx hb dX12_feed_114 hl (k := 2) rfl (by decide) (by decide) rfl (fun ls hl => ?_)
      refine lv_goto (tgt := 8) hx hb dX12_feed_117 (by decide) ?_
      have hst : kst n (kby vb 40) = (n + 1) := by rw [← hk]; exact (by first | exact kst_full hfull | exact kst_a c76 hlt | exact kst_b c83 c90 hlt | exact kst_lo c76 c83 | exact kst_hi c76 c90)
      have hup : kup f n (kby vb 40) = f_209 := by rw [← hk, ef_209, nI_clamp (by omega)]; exact kup_y (by first | exact kok_a c76 | exact kok_b c83 c90) hlt
      exact mf_11 z z2 z10 z11 z12 z13 z14 z15 z16 z17 z18 z19 z22 z23 z24 z25 z26 z27 z28 z29 z30 z31 z32 z33 z36 z37 z38 z39 z40 z41 z42 z43 z44 z45 z46 z47 z48 z55 z56 z59 z60 z61 n3 n4 n5 n6 n7 n8 n9 n20 n21 n34 n35 n49 n50 n51 n52 n53 n54 n57 n58 n62 n63 va vb vc (n + 1) f_209 (by omega) F G (by have h9 : kad vc 8 (kad vb 5 (kst n (kby vb 40))) = F := hF; rw [hst] at h9; exact h9) (by have h9 : kfa vc 8 (kad vb 5 (kst n (kby vb 40))) (kfa vb 5 (kst n (kby vb 40)) (kup f n (kby vb 40))) = G := hG; rw [hst, hup] at h9; exact h9) hC hr hlocks _ _ (kW.sub hw [0, 1] rfl rfl) _ (lv_sub hl [0, 3, 4, 5, 6] rfl)
    · refine lv_iload hx hb dX12_feed_79 (lv_at hl 0 rfl) ?_
      refine lv_bipush (v := 32) hx hb dX12_feed_81 (by decide) ?_
      refine lv_icmp_lt (tgt := 114) hx hb dX12_feed_83 (by decide) (fun c83 => ?_) (fun c83 => ?_)
      · refine lv_iinc (v := 11) (lv' := [(7, .int 11), (10, .int x_208), (8, .long vb), (0, .ref z), (1, .long va), (3, .long vb), (5, .long vc)]) hx hb dX12_feed_114 hl (k := 2) rfl (by decide) (by decide) rfl (fun ls hl => ?_)
        refine lv_goto (tgt := 8) hx hb dX12_feed_117 (by decide) ?_
        have hst : kst n (kby vb 40) = n := by rw [← hk]; exact (by first | exact kst_full hfull | exact kst_a c76 hlt | exact kst_b c83 c90 hlt | exact kst_lo c76 c83 | exact kst_hi c76 c90)
        have hup : kup f n (kby vb 40) = f := by rw [← hk]; exact (by first | exact kup_full hfull | exact kup_lo c76 c83 | exact kup_hi c76 c90)
        exact mf_11 z z2 z10 z11 z12 z13 z14 z15 z16 z17 z18 z19 z22 z23 z24 z25 z26 z27 z28 z29 z30 z31 z32 z33 z36 z37 z38 z39 z40 z41 z42 z43 z44 z45 z46 z47 z48 z55 z56 z59 z60 z61 n3 n4 n5 n6 n7 n8 n9 n20 n21 n34 n35 n49 n50 n51 n52 n53 n54 n57 n58 n62 n63 va vb vc n f (by omega) F G (by have h9 : kad vc 8 (kad vb 5 (kst n (kby vb 40))) = F := hF; rw [hst] at h9; exact h9) (by have h9 : kfa vc 8 (kad vb 5 (kst n (kby vb 40))) (kfa vb 5 (kst n (kby vb 40)) (kup f n (kby vb 40))) = G := hG; rw [hst, hup] at h9; exact h9) hC hr hlocks _ _ (kW.sub hw [0, 1] rfl rfl) _ (lv_sub hl [0, 3, 4, 5, 6] rfl)
      · refine lv_iload hx hb dX12_feed_86 (lv_at hl 0 rfl) ?_
        refine lv_bipush (v := 126) hx hb dX12_feed_88 (by decide) ?_
        refine lv_icmp_gt (tgt := 114) hx hb dX12_feed_90 (by decide) (fun c90 => ?_) (fun c90 => ?_)
        · refine lv_iinc (v := 11) (lv' := [(7, .int 11), (10, .int x_208), (8, .long vb), (0, .ref z), (1, .long va), (3, .long vb), (5, .long vc)]) hx hb dX12_feed_114 hl (k := 2) rfl (by decide) (by decide) rfl (fun ls hl => ?_)
          refine lv_goto (tgt := 8) hx hb dX12_feed_117 (by decide) ?_
          have hst : kst n (kby vb 40) = n := by rw [← hk]; exact (by first | exact kst_full hfull | exact kst_a c76 hlt | exact kst_b c83 c90 hlt | exact kst_lo c76 c83 | exact kst_hi c76 c90)
          have hup : kup f n (kby vb 40) = f := by rw [← hk]; exact (by first | exact kup_full hfull | exact kup_lo c76 c83 | exact kup_hi c76 c90)
          exact mf_11 z z2 z10 z11 z12 z13 z14 z15 z16 z17 z18 z19 z22 z23 z24 z25 z26 z27 z28 z29 z30 z31 z32 z33 z36 z37 z38 z39 z40 z41 z42 z43 z44 z45 z46 z47 z48 z55 z56 z59 z60 z61 n3 n4 n5 n6 n7 n8 n9 n20 n21 n34 n35 n49 n50 n51 n52 n53 n54 n57 n58 n62 n63 va vb vc n f (by omega) F G (by have h9 : kad vc 8 (kad vb 5 (kst n (kby vb 40))) = F := hF; rw [hst] at h9; exact h9) (by have h9 : kfa vc 8 (kad vb 5 (kst n (kby vb 40))) (kfa vb 5 (kst n (kby vb 40)) (kup f n (kby vb 40))) = G := hG; rw [hst, hup] at h9; exact h9) hC hr hlocks _ _ (kW.sub hw [0, 1] rfl rfl) _ (lv_sub hl [0, 3, 4, 5, 6] rfl)
        · refine lv_aload_n hx hb dX12_feed_93 rfl (lv_at hl 3 rfl) ?_
          refine fg_RX12_7 hC hw 0 rfl rfl dX12_feed_94 ?_
          refine lv_aload_n hx hb dX12_feed_97 rfl (lv_at hl 3 rfl) ?_
          refine fg_RX12_148 hC hw 0 rfl rfl dX12_feed_98 ?_
          refine lv_iload hx hb dX12_feed_101 (lv_at hl 0 rfl) ?_
          refine k_iast hC hw 1 rfl (vp_in_nI hlt (by decide)) dX12_feed_103 (fun H locs hw => ?_)
          obtain ⟨f_211, ef_211⟩ : ∃ g, g = upd f ((nI n) : Int32).toNatClampNeg x_208 := ⟨_, rfl⟩
          have hw : kW γ A [(z, .inr (11, [.int 0, .int (nI n), .ref z2, .int n3, .int n4, .int n5, .int n6, .long n7, .int n8, .int n9, .ref z10, .ref z11, .ref z12, .ref z13, .ref z14, .ref z15, .ref z16, .ref z17, .ref z18, .ref z19, .int n20, .int n21, .ref z22, .ref z23, .ref z24, .ref z25, .ref z26, .ref z27, .ref z28, .ref z29, .ref z30, .ref z31, .ref z32, .ref z33, .int n34, .long n35, .ref z36, .ref z37, .ref z38, .ref z39, .ref z40, .ref z41, .ref z42, .ref z43, .ref z44, .ref z45, .ref z46, .ref z47, .ref z48, .int n49, .int n50, .int n51, .int n52, .int n53, .int n54, .ref z55, .ref z56, .int n57, .int n58, .ref z59, .ref z60, .ref z61, .int n62, .long n63])), (z2, .inl (γ.2.1 0, 1000, .inl f_211))] s H locs := by rw [ef_211]; exact hw
          refine lv_aload_n hx hb dX12_feed_104 rfl (lv_at hl 3 rfl) ?_
          refine lv_dup hx hb dX12_feed_105 rfl ?_
          refine fg_RX12_148 hC hw 0 rfl rfl dX12_feed_106 ?_
          refine lv_iconst (v := 1) hx hb dX12_feed_109 (by decide) ?_
          refine lv_iadd hx hb dX12_feed_110 ?_
          refine lv_topi (fun x_212 ex_212 => ?_)
          obtain rfl : x_212 = (nI (n + 1)) := ex_212.trans (nI_1 n)
          refine fs_RX12_148 hC hw 0 rfl rfl rfl (Nat.le_of_ble_eq_true rfl) dX12_feed_111 (fun H locs hw => ?_)
          have hw : kW γ A [(z, .inr (11, [.int 0, .int (nI (n + 1)), .ref z2, .int n3, .int n4, .int n5, .int n6, .long n7, .int n8, .int n9, .ref z10, .ref z11, .ref z12, .ref z13, .ref z14, .ref z15, .ref z16, .ref z17, .ref z18, .ref z19, .int n20, .int n21, .ref z22, .ref z23, .ref z24, .ref z25, .ref z26, .ref z27, .ref z28, .ref z29, .ref z30, .ref z31, .ref z32, .ref z33, .int n34, .long n35, .ref z36, .ref z37, .ref z38, .ref z39, .ref z40, .ref z41, .ref z42, .ref z43, .ref z44, .ref z45, .ref z46, .ref z47, .ref z48, .int n49, .int n50, .int n51, .int n52, .int n53, .int n54, .ref z55, .ref z56, .int n57, .int n58, .ref z59, .ref z60, .ref z61, .int n62, .long n63])), (z2, .inl (γ.2.1 0, 1000, .inl f_211))] s H locs := hw
          refine lv_iinc (v := 11) (lv' := [(7, .int 11), (10, .int x_208), (8, .long vb), (0, .ref z), (1, .long va), (3, .long vb), (5, .long vc)]) hx hb dX12_feed_114 hl (k := 2) rfl (by decide) (by decide) rfl (fun ls hl => ?_)
          refine lv_goto (tgt := 8) hx hb dX12_feed_117 (by decide) ?_
          have hst : kst n (kby vb 40) = (n + 1) := by rw [← hk]; exact (by first | exact kst_full hfull | exact kst_a c76 hlt | exact kst_b c83 c90 hlt | exact kst_lo c76 c83 | exact kst_hi c76 c90)
          have hup : kup f n (kby vb 40) = f_211 := by rw [← hk, ef_211, nI_clamp (by omega)]; exact kup_y (by first | exact kok_a c76 | exact kok_b c83 c90) hlt
          exact mf_11 z z2 z10 z11 z12 z13 z14 z15 z16 z17 z18 z19 z22 z23 z24 z25 z26 z27 z28 z29 z30 z31 z32 z33 z36 z37 z38 z39 z40 z41 z42 z43 z44 z45 z46 z47 z48 z55 z56 z59 z60 z61 n3 n4 n5 n6 n7 n8 n9 n20 n21 n34 n35 n49 n50 n51 n52 n53 n54 n57 n58 n62 n63 va vb vc (n + 1) f_211 (by omega) F G (by have h9 : kad vc 8 (kad vb 5 (kst n (kby vb 40))) = F := hF; rw [hst] at h9; exact h9) (by have h9 : kfa vc 8 (kad vb 5 (kst n (kby vb 40))) (kfa vb 5 (kst n (kby vb 40)) (kup f n (kby vb 40))) = G := hG; rw [hst, hup] at h9; exact h9) hC hr hlocks _ _ (kW.sub hw [0, 1] rfl rfl) _ (lv_sub hl [0, 3, 4, 5, 6] rfl)

set_option maxHeartbeats 4000000 in
set_option maxRecDepth 100000 in
theorem mf_9 {γ : kΓ} {l : Launch} {p : Program} {e : Env} {s : State} {m : MethodId} {below : List Frame} {meth : Method} {c : Code} {A : Nat → Prop} (z : Nat) (z2 : Nat) (z10 : Nat) (z11 : Nat) (z12 : Nat) (z13 : Nat) (z14 : Nat) (z15 : Nat) (z16 : Nat) (z17 : Nat) (z18 : Nat) (z19 : Nat) (z22 : Nat) (z23 : Nat) (z24 : Nat) (z25 : Nat) (z26 : Nat) (z27 : Nat) (z28 : Nat) (z29 : Nat) (z30 : Nat) (z31 : Nat) (z32 : Nat) (z33 : Nat) (z36 : Nat) (z37 : Nat) (z38 : Nat) (z39 : Nat) (z40 : Nat) (z41 : Nat) (z42 : Nat) (z43 : Nat) (z44 : Nat) (z45 : Nat) (z46 : Nat) (z47 : Nat) (z48 : Nat) (z55 : Nat) (z56 : Nat) (z59 : Nat) (z60 : Nat) (z61 : Nat) (n3 : Int32) (n4 : Int32) (n5 : Int32) (n6 : Int32) (n7 : Int64) (n8 : Int32) (n9 : Int32) (n20 : Int32) (n21 : Int32) (n34 : Int32) (n35 : Int64) (n49 : Int32) (n50 : Int32) (n51 : Int32) (n52 : Int32) (n53 : Int32) (n54 : Int32) (n57 : Int32) (n58 : Int32) (n62 : Int32) (n63 : Int64) (va : Int64) (vb : Int64) (vc : Int64) (n : Nat) (f : Nat → Int32) (hn : n ≤ 1000) (F : Nat) (G : Nat → Int32) (hF : kad vc 8 (kad vb 7 n) = F) (hG : kfa vc 8 (kad vb 7 n) (kfa vb 7 n f) = G) (hC : kC γ p s m [.ref z, .long va, .long vb, .long vc].toArray c cX12_feed 11 RX12 A) (hr : meth.sig.returnType = (some .int)) (hlocks : meth.locks = false) (H : Heap) (locs : List Loc) (hw : kW γ A [(z, .inr (11, [.int 0, .int (nI n), .ref z2, .int n3, .int n4, .int n5, .int n6, .long n7, .int n8, .int n9, .ref z10, .ref z11, .ref z12, .ref z13, .ref z14, .ref z15, .ref z16, .ref z17, .ref z18, .ref z19, .int n20, .int n21, .ref z22, .ref z23, .ref z24, .ref z25, .ref z26, .ref z27, .ref z28, .ref z29, .ref z30, .ref z31, .ref z32, .ref z33, .int n34, .long n35, .ref z36, .ref z37, .ref z38, .ref z39, .ref z40, .ref z41, .ref z42, .ref z43, .ref z44, .ref z45, .ref z46, .ref z47, .ref z48, .int n49, .int n50, .int n51, .int n52, .int n53, .int n54, .ref z55, .ref z56, .int n57, .int n58, .ref z59, .ref z60, .ref z61, .int n62, .long n63])), (z2, .inl (γ.2.1 0, 1000, .inl f))] s H locs) (ls : Array Slot) (hl : lv_has ls 11 [(7, .int 9), (0, .ref z), (1, .long va), (3, .long vb), (5, .long vc)]) : W p l e ({ frames := 0, cells := 0, slots := 0, locals := 0 } : Room) s m [.ref z, .long va, .long vb, .long vc].toArray below meth c H locs 0 0 (MQ below (kQ γ A (fun r w1 => r = some (.int (nI F)) ∧ w1 = [(z, .inr (11, [.int 0, .int (nI F), .ref z2, .int n3, .int n4, .int n5, .int n6, .long n7, .int n8, .int n9, .ref z10, .ref z11, .ref z12, .ref z13, .ref z14, .ref z15, .ref z16, .ref z17, .ref z18, .ref z19, .int n20, .int n21, .ref z22, .ref z23, .ref z24, .ref z25, .ref z26, .ref z27, .ref z28, .ref z29, .ref z30, .ref z31, .ref z32, .ref z33, .int n34, .long n35, .ref z36, .ref z37, .ref z38, .ref z39, .ref z40, .ref z41, .ref z42, .ref z43, .ref z44, .ref z45, .ref z46, .ref z47, .ref z48, .int n49, .int n50, .int n51, .int n52, .int n53, .int n54, .ref z55, .ref z56, .int n57, .int n58, .ref z59, .ref z60, .ref z61, .int n62, .long n63])), (z2, .inl (γ.2.1 0, 1000, .inl G))])) [.ref z, .long va, .long vb, .long vc].toArray s 0 0 A) (F0 m 8 ls []) := by
  have hx := hC.1
  have hb := hC.2.1
  refine lv_iload hx hb dX12_feed_8 (lv_at hl 0 rfl) ?_
  refine lv_bipush (v := 24) hx hb dX12_feed_10 (by decide) ?_
  refine lv_icmp_ge (tgt := 120) hx hb dX12_feed_12 (by decide) (fun h => absurd h (by decide)) (fun _ => ?_)
  refine lv_iload hx hb dX12_feed_15 (lv_at hl 0 rfl) ?_
  refine lv_bipush (v := 8) hx hb dX12_feed_17 (by decide) ?_
  refine lv_icmp_ge (tgt := 26) hx hb dX12_feed_19 (by decide) (fun _ => ?_) (fun h => absurd (by decide) h)
  refine lv_iload hx hb dX12_feed_26 (lv_at hl 0 rfl) ?_
  refine lv_bipush (v := 16) hx hb dX12_feed_28 (by decide) ?_
  refine lv_icmp_ge (tgt := 37) hx hb dX12_feed_30 (by decide) (fun h => absurd h (by decide)) (fun _ => ?_)
  refine lv_lload_n hx hb dX12_feed_33 rfl (lv_at hl 3 rfl) ?_
  refine lv_goto (tgt := 39) hx hb dX12_feed_34 (by decide) ?_
  refine lv_lstore (lv' := [(8, .long vb), (7, .int 9), (0, .ref z), (1, .long va), (3, .long vb), (5, .long vc)]) hx hb dX12_feed_39 hl (by decide) rfl (fun ls hl => ?_)
  refine lv_lload hx hb dX12_feed_41 (lv_at hl 0 rfl) ?_
  refine lv_bipush (v := 56) hx hb dX12_feed_43 (by decide) ?_
  refine lv_bipush (v := 8) hx hb dX12_feed_45 (by decide) ?_
  refine lv_iload hx hb dX12_feed_47 (lv_at hl 1 rfl) ?_
  refine lv_bipush (v := 7) hx hb dX12_feed_49 (by decide) ?_
  refine lv_iand hx hb dX12_feed_51 ?_
  refine lv_topi (fun x_213 ex_213 => ?_)
  obtain rfl : x_213 = 1 := ex_213.trans (by decide)
  refine lv_imul hx hb dX12_feed_52 ?_
  refine lv_topi (fun x_214 ex_214 => ?_)
  obtain rfl : x_214 = 8 := ex_214.trans (by decide)
  refine lv_isub hx hb dX12_feed_53 ?_
  refine lv_topi (fun x_215 ex_215 => ?_)
  obtain rfl : x_215 = 48 := ex_215.trans (by decide)
  refine lv_lushr hx hb dX12_feed_54 rfl ?_
  refine lv_topl (fun x_216 ex_216 => ?_)
  refine k_ldc2 hC gw_1389 dX12_feed_55 ?_
  refine lv_land hx hb dX12_feed_58 ?_
  refine lv_topl (fun x_217 ex_217 => ?_)
  refine lv_l2i hx hb dX12_feed_59 rfl ?_
  refine lv_topi (fun x_218 ex_218 => ?_)
  refine lv_istore (lv' := [(10, .int x_218), (8, .long vb), (7, .int 9), (0, .ref z), (1, .long va), (3, .long vb), (5, .long vc)]) hx hb dX12_feed_60 hl (by decide) rfl (fun ls hl => ?_)
  have hk : x_218 = kby vb 48 := by rw [ex_218, ex_217, k_land, ex_216]; rfl
  refine lv_aload_n hx hb dX12_feed_62 rfl (lv_at hl 3 rfl) ?_
  refine fg_RX12_148 hC hw 0 rfl rfl dX12_feed_63 ?_
  refine lv_sipush (v := 1000) hx hb dX12_feed_66 (by decide) ?_
  refine lv_icmp_ge (tgt := 114) hx hb dX12_feed_69 (by decide) (fun c69 => ?_) (fun c69 => ?_)
  · have hfull : ¬ n < 1000 := fun h9 => absurd c69 (nI_ge h9 (by decide))
    refine lv_iinc (v := 10) (lv' := [(7, .int 10), (10, .int x_218), (8, .long vb), (0, .ref z), (1, .long va), (3, .long vb), (5, .long vc)]) hx hb dX12_feed_114 hl (k := 2) rfl (by decide) (by decide) rfl (fun ls hl => ?_)
    refine lv_goto (tgt := 8) hx hb dX12_feed_117 (by decide) ?_
    have hst : kst n (kby vb 48) = n := by rw [← hk]; exact (by first | exact kst_full hfull | exact kst_a c76 hlt | exact kst_b c83 c90 hlt | exact kst_lo c76 c83 | exact kst_hi c76 c90)
    have hup : kup f n (kby vb 48) = f := by rw [← hk]; exact (by first | exact kup_full hfull | exact kup_lo c76 c83 | exact kup_hi c76 c90)
    exact mf_10 z z2 z10 z11 z12 z13 z14 z15 z16 z17 z18 z19 z22 z23 z24 z25 z26 z27 z28 z29 z30 z31 z32 z33 z36 z37 z38 z39 z40 z41 z42 z43 z44 z45 z46 z47 z48 z55 z56 z59 z60 z61 n3 n4 n5 n6 n7 n8 n9 n20 n21 n34 n35 n49 n50 n51 n52 n53 n54 n57 n58 n62 n63 va vb vc n f (by omega) F G (by have h9 : kad vc 8 (kad vb 6 (kst n (kby vb 48))) = F := hF; rw [hst] at h9; exact h9) (by have h9 : kfa vc 8 (kad vb 6 (kst n (kby vb 48))) (kfa vb 6 (kst n (kby vb 48)) (kup f n (kby vb 48))) = G := hG; rw [hst, hup] at h9; exact h9) hC hr hlocks _ _ (kW.sub hw [0, 1] rfl rfl) _ (lv_sub hl [0, 3, 4, 5, 6] rfl)
  · have hlt : n < 1000 := by rcases Nat.lt_or_ge n 1000 with h9 | h9; exact h9; exact absurd (nI_le h9 (by omega)) c69
    refine lv_iload hx hb dX12_feed_72 (lv_at hl 0 rfl) ?_
    refine lv_bipush (v := 10) hx hb dX12_feed_74 (by decide) ?_
    refine lv_icmp_eq (tgt := 93) hx hb dX12_feed_76 (by decide) (fun c76 => ?_) (fun c76 => ?_)
    · refine lv_aload_n hx hb dX12_feed_93 rfl (lv_at hl 3 rfl) ?_
      refine fg_RX12_7 hC hw 0 rfl rfl dX12_feed_94 ?_
      refine lv_aload_n hx hb dX12_feed_97 rfl (lv_at hl 3 rfl) ?_
      refine fg_RX12_148 hC hw 0 rfl rfl dX12_feed_98 ?_
      refine lv_iload hx hb dX12_feed_101 (lv_at hl 0 rfl) ?_
      refine k_iast hC hw 1 rfl (vp_in_nI hlt (by decide)) dX12_feed_103 (fun H locs hw => ?_)
      obtain ⟨f_219, ef_219⟩ : ∃ g, g = upd f ((nI n) : Int32).toNatClampNeg x_218 := ⟨_, rfl⟩
      have hw : kW γ A [(z, .inr (11, [.int 0, .int (nI n), .ref z2, .int n3, .int n4, .int n5, .int n6, .long n7, .int n8, .int n9, .ref z10, .ref z11, .ref z12, .ref z13, .ref z14, .ref z15, .ref z16, .ref z17, .ref z18, .ref z19, .int n20, .int n21, .ref z22, .ref z23, .ref z24, .ref z25, .ref z26, .ref z27, .ref z28, .ref z29, .ref z30, .ref z31, .ref z32, .ref z33, .int n34, .long n35, .ref z36, .ref z37, .ref z38, .ref z39, .ref z40, .ref z41, .ref z42, .ref z43, .ref z44, .ref z45, .ref z46, .ref z47, .ref z48, .int n49, .int n50, .int n51, .int n52, .int n53, .int n54, .ref z55, .ref z56, .int n57, .int n58, .ref z59, .ref z60, .ref z61, .int n62, .long n63])), (z2, .inl (γ.2.1 0, 1000, .inl f_219))] s H locs := by rw [ef_219]; exact hw
      refine lv_aload_n hx hb dX12_feed_104 rfl (lv_at hl 3 rfl) ?_
      refine lv_dup hx hb dX12_feed_105 rfl ?_
      refine fg_RX12_148 hC hw 0 rfl rfl dX12_feed_106 ?_
      refine lv_iconst (v := 1) hx hb dX12_feed_109 (by decide) ?_
      refine lv_iadd hx hb dX12_feed_110 ?_
      refine lv_topi (fun x_220 ex_220 => ?_)
      obtain rfl : x_220 = (nI (n + 1)) := ex_220.trans (nI_1 n)
      refine fs_RX12_148 hC hw 0 rfl rfl rfl (Nat.le_of_ble_eq_true rfl) dX12_feed_111 (fun H locs hw => ?_)
      have hw : kW γ A [(z, .inr (11, [.int 0, .int (nI (n + 1)), .ref z2, .int n3, .int n4, .int n5, .int n6, .long n7, .int n8, .int n9, .ref z10, .ref z11, .ref z12, .ref z13, .ref z14, .ref z15, .ref z16, .ref z17, .ref z18, .ref z19, .int n20, .int n21, .ref z22, .ref z23, .ref z24, .ref z25, .ref z26, .ref z27, .ref z28, .ref z29, .ref z30, .ref z31, .ref z32, .ref z33, .int n34, .long n35, .ref z36, .ref z37, .ref z38, .ref z39, .ref z40, .ref z41, .ref z42, .ref z43, .ref z44, .ref z45, .ref z46, .ref z47, .ref z48, .int n49, .int n50, .int n51, .int n52, .int n53, .int n54, .ref z55, .ref z56, .int n57, .int n58, .ref z59, .ref z60, .ref z61, .int n62, .long n63])), (z2, .inl (γ.2.1 0, 1000, .inl f_219))] s H locs := hw
      refine lv_iinc (v := 10) (lv' := [(7, .int 10), (10, .int x_218), (8, .long vb), (0, .ref z), (1, .long va), (3, .long vb), (5, .long vc)]) hx hb dX12_feed_114 hl (k := 2) rfl (by decide) (by decide) rfl (fun ls hl => ?_)
      refine lv_goto (tgt := 8) hx hb dX12_feed_117 (by decide) ?_
      have hst : kst n (kby vb 48) = (n + 1) := by rw [← hk]; exact (by first | exact kst_full hfull | exact kst_a c76 hlt | exact kst_b c83 c90 hlt | exact kst_lo c76 c83 | exact kst_hi c76 c90)
      have hup : kup f n (kby vb 48) = f_219 := by rw [← hk, ef_219, nI_clamp (by omega)]; exact kup_y (by first | exact kok_a c76 | exact kok_b c83 c90) hlt
      exact mf_10 z z2 z10 z11 z12 z13 z14 z15 z16 z17 z18 z19 z22 z23 z24 z25 z26 z27 z28 z29 z30 z31 z32 z33 z36 z37 z38 z39 z40 z41 z42 z43 z44 z45 z46 z47 z48 z55 z56 z59 z60 z61 n3 n4 n5 n6 n7 n8 n9 n20 n21 n34 n35 n49 n50 n51 n52 n53 n54 n57 n58 n62 n63 va vb vc (n + 1) f_219 (by omega) F G (by have h9 : kad vc 8 (kad vb 6 (kst n (kby vb 48))) = F := hF; rw [hst] at h9; exact h9) (by have h9 : kfa vc 8 (kad vb 6 (kst n (kby vb 48))) (kfa vb 6 (kst n (kby vb 48)) (kup f n (kby vb 48))) = G := hG; rw [hst, hup] at h9; exact h9) hC hr hlocks _ _ (kW.sub hw [0, 1] rfl rfl) _ (lv_sub hl [0, 3, 4, 5, 6] rfl)
    · refine lv_iload hx hb dX12_feed_79 (lv_at hl 0 rfl) ?_
      refine lv_bipush (v := 32) hx hb dX12_feed_81 (by decide) ?_
      refine lv_icmp_lt (tgt := 114) hx hb dX12_feed_83 (by decide) (fun c83 => ?_) (fun c83 => ?_)
      · refine lv_iinc (v := 10) (lv' := [(7, .int 10), (10, .int x_218), (8, .long vb), (0, .ref z), (1, .long va), (3, .long vb), (5, .long vc)]) hx hb dX12_feed_114 hl (k := 2) rfl (by decide) (by decide) rfl (fun ls hl => ?_)
        refine lv_goto (tgt := 8) hx hb dX12_feed_117 (by decide) ?_
        have hst : kst n (kby vb 48) = n := by rw [← hk]; exact (by first | exact kst_full hfull | exact kst_a c76 hlt | exact kst_b c83 c90 hlt | exact kst_lo c76 c83 | exact kst_hi c76 c90)
        have hup : kup f n (kby vb 48) = f := by rw [← hk]; exact (by first | exact kup_full hfull | exact kup_lo c76 c83 | exact kup_hi c76 c90)
        exact mf_10 z z2 z10 z11 z12 z13 z14 z15 z16 z17 z18 z19 z22 z23 z24 z25 z26 z27 z28 z29 z30 z31 z32 z33 z36 z37 z38 z39 z40 z41 z42 z43 z44 z45 z46 z47 z48 z55 z56 z59 z60 z61 n3 n4 n5 n6 n7 n8 n9 n20 n21 n34 n35 n49 n50 n51 n52 n53 n54 n57 n58 n62 n63 va vb vc n f (by omega) F G (by have h9 : kad vc 8 (kad vb 6 (kst n (kby vb 48))) = F := hF; rw [hst] at h9; exact h9) (by have h9 : kfa vc 8 (kad vb 6 (kst n (kby vb 48))) (kfa vb 6 (kst n (kby vb 48)) (kup f n (kby vb 48))) = G := hG; rw [hst, hup] at h9; exact h9) hC hr hlocks _ _ (kW.sub hw [0, 1] rfl rfl) _ (lv_sub hl [0, 3, 4, 5, 6] rfl)
      · refine lv_iload hx hb dX12_feed_86 (lv_at hl 0 rfl) ?_
        refine lv_bipush (v := 126) hx hb dX12_feed_88 (by decide) ?_
        refine lv_icmp_gt (tgt := 114) hx hb dX12_feed_90 (by decide) (fun c90 => ?_) (fun c90 => ?_)
        · refine lv_iinc (v := 10) (lv' := [(7, .int 10), (10, .int x_218), (8, .long vb), (0, .ref z), (1, .long va), (3, .long vb), (5, .long vc)]) hx hb dX12_feed_114 hl (k := 2) rfl (by decide) (by decide) rfl (fun ls hl => ?_)
          refine lv_goto (tgt := 8) hx hb dX12_feed_117 (by decide) ?_
          have hst : kst n (kby vb 48) = n := by rw [← hk]; exact (by first | exact kst_full hfull | exact kst_a c76 hlt | exact kst_b c83 c90 hlt | exact kst_lo c76 c83 | exact kst_hi c76 c90)
          have hup : kup f n (kby vb 48) = f := by rw [← hk]; exact (by first | exact kup_full hfull | exact kup_lo c76 c83 | exact kup_hi c76 c90)
          exact mf_10 z z2 z10 z11 z12 z13 z14 z15 z16 z17 z18 z19 z22 z23 z24 z25 z26 z27 z28 z29 z30 z31 z32 z33 z36 z37 z38 z39 z40 z41 z42 z43 z44 z45 z46 z47 z48 z55 z56 z59 z60 z61 n3 n4 n5 n6 n7 n8 n9 n20 n21 n34 n35 n49 n50 n51 n52 n53 n54 n57 n58 n62 n63 va vb vc n f (by omega) F G (by have h9 : kad vc 8 (kad vb 6 (kst n (kby vb 48))) = F := hF; rw [hst] at h9; exact h9) (by have h9 : kfa vc 8 (kad vb 6 (kst n (kby vb 48))) (kfa vb 6 (kst n (kby vb 48)) (kup f n (kby vb 48))) = G := hG; rw [hst, hup] at h9; exact h9) hC hr hlocks _ _ (kW.sub hw [0, 1] rfl rfl) _ (lv_sub hl [0, 3, 4, 5, 6] rfl)
        · refine lv_aload_n hx hb dX12_feed_93 rfl (lv_at hl 3 rfl) ?_
          refine fg_RX12_7 hC hw 0 rfl rfl dX12_feed_94 ?_
          refine lv_aload_n hx hb dX12_feed_97 rfl (lv_at hl 3 rfl) ?_
          refine fg_RX12_148 hC hw 0 rfl rfl dX12_feed_98 ?_
          refine lv_iload hx hb dX12_feed_101 (lv_at hl 0 rfl) ?_
          refine k_iast hC hw 1 rfl (vp_in_nI hlt (by decide)) dX12_feed_103 (fun H locs hw => ?_)
          obtain ⟨f_221, ef_221⟩ : ∃ g, g = upd f ((nI n) : Int32).toNatClampNeg x_218 := ⟨_, rfl⟩
          have hw : kW γ A [(z, .inr (11, [.int 0, .int (nI n), .ref z2, .int n3, .int n4, .int n5, .int n6, .long n7, .int n8, .int n9, .ref z10, .ref z11, .ref z12, .ref z13, .ref z14, .ref z15, .ref z16, .ref z17, .ref z18, .ref z19, .int n20, .int n21, .ref z22, .ref z23, .ref z24, .ref z25, .ref z26, .ref z27, .ref z28, .ref z29, .ref z30, .ref z31, .ref z32, .ref z33, .int n34, .long n35, .ref z36, .ref z37, .ref z38, .ref z39, .ref z40, .ref z41, .ref z42, .ref z43, .ref z44, .ref z45, .ref z46, .ref z47, .ref z48, .int n49, .int n50, .int n51, .int n52, .int n53, .int n54, .ref z55, .ref z56, .int n57, .int n58, .ref z59, .ref z60, .ref z61, .int n62, .long n63])), (z2, .inl (γ.2.1 0, 1000, .inl f_221))] s H locs := by rw [ef_221]; exact hw
          refine lv_aload_n hx hb dX12_feed_104 rfl (lv_at hl 3 rfl) ?_
          refine lv_dup hx hb dX12_feed_105 rfl ?_
          refine fg_RX12_148 hC hw 0 rfl rfl dX12_feed_106 ?_
          refine lv_iconst (v := 1) hx hb dX12_feed_109 (by decide) ?_
          refine lv_iadd hx hb dX12_feed_110 ?_
          refine lv_topi (fun x_222 ex_222 => ?_)
          obtain rfl : x_222 = (nI (n + 1)) := ex_222.trans (nI_1 n)
          refine fs_RX12_148 hC hw 0 rfl rfl rfl (Nat.le_of_ble_eq_true rfl) dX12_feed_111 (fun H locs hw => ?_)
          have hw : kW γ A [(z, .inr (11, [.int 0, .int (nI (n + 1)), .ref z2, .int n3, .int n4, .int n5, .int n6, .long n7, .int n8, .int n9, .ref z10, .ref z11, .ref z12, .ref z13, .ref z14, .ref z15, .ref z16, .ref z17, .ref z18, .ref z19, .int n20, .int n21, .ref z22, .ref z23, .ref z24, .ref z25, .ref z26, .ref z27, .ref z28, .ref z29, .ref z30, .ref z31, .ref z32, .ref z33, .int n34, .long n35, .ref z36, .ref z37, .ref z38, .ref z39, .ref z40, .ref z41, .ref z42, .ref z43, .ref z44, .ref z45, .ref z46, .ref z47, .ref z48, .int n49, .int n50, .int n51, .int n52, .int n53, .int n54, .ref z55, .ref z56, .int n57, .int n58, .ref z59, .ref z60, .ref z61, .int n62, .long n63])), (z2, .inl (γ.2.1 0, 1000, .inl f_221))] s H locs := hw
          refine lv_iinc (v := 10) (lv' := [(7, .int 10), (10, .int x_218), (8, .long vb), (0, .ref z), (1, .long va), (3, .long vb), (5, .long vc)]) hx hb dX12_feed_114 hl (k := 2) rfl (by decide) (by decide) rfl (fun ls hl => ?_)
          refine lv_goto (tgt := 8) hx hb dX12_feed_117 (by decide) ?_
          have hst : kst n (kby vb 48) = (n + 1) := by rw [← hk]; exact (by first | exact kst_full hfull | exact kst_a c76 hlt | exact kst_b c83 c90 hlt | exact kst_lo c76 c83 | exact kst_hi c76 c90)
          have hup : kup f n (kby vb 48) = f_221 := by rw [← hk, ef_221, nI_clamp (by omega)]; exact kup_y (by first | exact kok_a c76 | exact kok_b c83 c90) hlt
          exact mf_10 z z2 z10 z11 z12 z13 z14 z15 z16 z17 z18 z19 z22 z23 z24 z25 z26 z27 z28 z29 z30 z31 z32 z33 z36 z37 z38 z39 z40 z41 z42 z43 z44 z45 z46 z47 z48 z55 z56 z59 z60 z61 n3 n4 n5 n6 n7 n8 n9 n20 n21 n34 n35 n49 n50 n51 n52 n53 n54 n57 n58 n62 n63 va vb vc (n + 1) f_221 (by omega) F G (by have h9 : kad vc 8 (kad vb 6 (kst n (kby vb 48))) = F := hF; rw [hst] at h9; exact h9) (by have h9 : kfa vc 8 (kad vb 6 (kst n (kby vb 48))) (kfa vb 6 (kst n (kby vb 48)) (kup f n (kby vb 48))) = G := hG; rw [hst, hup] at h9; exact h9) hC hr hlocks _ _ (kW.sub hw [0, 1] rfl rfl) _ (lv_sub hl [0, 3, 4, 5, 6] rfl)

set_option maxHeartbeats 4000000 in
set_option maxRecDepth 100000 in
theorem mf_8 {γ : kΓ} {l : Launch} {p : Program} {e : Env} {s : State} {m : MethodId} {below : List Frame} {meth : Method} {c : Code} {A : Nat → Prop} (z : Nat) (z2 : Nat) (z10 : Nat) (z11 : Nat) (z12 : Nat) (z13 : Nat) (z14 : Nat) (z15 : Nat) (z16 : Nat) (z17 : Nat) (z18 : Nat) (z19 : Nat) (z22 : Nat) (z23 : Nat) (z24 : Nat) (z25 : Nat) (z26 : Nat) (z27 : Nat) (z28 : Nat) (z29 : Nat) (z30 : Nat) (z31 : Nat) (z32 : Nat) (z33 : Nat) (z36 : Nat) (z37 : Nat) (z38 : Nat) (z39 : Nat) (z40 : Nat) (z41 : Nat) (z42 : Nat) (z43 : Nat) (z44 : Nat) (z45 : Nat) (z46 : Nat) (z47 : Nat) (z48 : Nat) (z55 : Nat) (z56 : Nat) (z59 : Nat) (z60 : Nat) (z61 : Nat) (n3 : Int32) (n4 : Int32) (n5 : Int32) (n6 : Int32) (n7 : Int64) (n8 : Int32) (n9 : Int32) (n20 : Int32) (n21 : Int32) (n34 : Int32) (n35 : Int64) (n49 : Int32) (n50 : Int32) (n51 : Int32) (n52 : Int32) (n53 : Int32) (n54 : Int32) (n57 : Int32) (n58 : Int32) (n62 : Int32) (n63 : Int64) (va : Int64) (vb : Int64) (vc : Int64) (n : Nat) (f : Nat → Int32) (hn : n ≤ 1000) (F : Nat) (G : Nat → Int32) (hF : kad vc 8 (kad vb 8 n) = F) (hG : kfa vc 8 (kad vb 8 n) (kfa vb 8 n f) = G) (hC : kC γ p s m [.ref z, .long va, .long vb, .long vc].toArray c cX12_feed 11 RX12 A) (hr : meth.sig.returnType = (some .int)) (hlocks : meth.locks = false) (H : Heap) (locs : List Loc) (hw : kW γ A [(z, .inr (11, [.int 0, .int (nI n), .ref z2, .int n3, .int n4, .int n5, .int n6, .long n7, .int n8, .int n9, .ref z10, .ref z11, .ref z12, .ref z13, .ref z14, .ref z15, .ref z16, .ref z17, .ref z18, .ref z19, .int n20, .int n21, .ref z22, .ref z23, .ref z24, .ref z25, .ref z26, .ref z27, .ref z28, .ref z29, .ref z30, .ref z31, .ref z32, .ref z33, .int n34, .long n35, .ref z36, .ref z37, .ref z38, .ref z39, .ref z40, .ref z41, .ref z42, .ref z43, .ref z44, .ref z45, .ref z46, .ref z47, .ref z48, .int n49, .int n50, .int n51, .int n52, .int n53, .int n54, .ref z55, .ref z56, .int n57, .int n58, .ref z59, .ref z60, .ref z61, .int n62, .long n63])), (z2, .inl (γ.2.1 0, 1000, .inl f))] s H locs) (ls : Array Slot) (hl : lv_has ls 11 [(7, .int 8), (0, .ref z), (1, .long va), (3, .long vb), (5, .long vc)]) : W p l e ({ frames := 0, cells := 0, slots := 0, locals := 0 } : Room) s m [.ref z, .long va, .long vb, .long vc].toArray below meth c H locs 0 0 (MQ below (kQ γ A (fun r w1 => r = some (.int (nI F)) ∧ w1 = [(z, .inr (11, [.int 0, .int (nI F), .ref z2, .int n3, .int n4, .int n5, .int n6, .long n7, .int n8, .int n9, .ref z10, .ref z11, .ref z12, .ref z13, .ref z14, .ref z15, .ref z16, .ref z17, .ref z18, .ref z19, .int n20, .int n21, .ref z22, .ref z23, .ref z24, .ref z25, .ref z26, .ref z27, .ref z28, .ref z29, .ref z30, .ref z31, .ref z32, .ref z33, .int n34, .long n35, .ref z36, .ref z37, .ref z38, .ref z39, .ref z40, .ref z41, .ref z42, .ref z43, .ref z44, .ref z45, .ref z46, .ref z47, .ref z48, .int n49, .int n50, .int n51, .int n52, .int n53, .int n54, .ref z55, .ref z56, .int n57, .int n58, .ref z59, .ref z60, .ref z61, .int n62, .long n63])), (z2, .inl (γ.2.1 0, 1000, .inl G))])) [.ref z, .long va, .long vb, .long vc].toArray s 0 0 A) (F0 m 8 ls []) := by
  have hx := hC.1
  have hb := hC.2.1
  refine lv_iload hx hb dX12_feed_8 (lv_at hl 0 rfl) ?_
  refine lv_bipush (v := 24) hx hb dX12_feed_10 (by decide) ?_
  refine lv_icmp_ge (tgt := 120) hx hb dX12_feed_12 (by decide) (fun h => absurd h (by decide)) (fun _ => ?_)
  refine lv_iload hx hb dX12_feed_15 (lv_at hl 0 rfl) ?_
  refine lv_bipush (v := 8) hx hb dX12_feed_17 (by decide) ?_
  refine lv_icmp_ge (tgt := 26) hx hb dX12_feed_19 (by decide) (fun _ => ?_) (fun h => absurd (by decide) h)
  refine lv_iload hx hb dX12_feed_26 (lv_at hl 0 rfl) ?_
  refine lv_bipush (v := 16) hx hb dX12_feed_28 (by decide) ?_
  refine lv_icmp_ge (tgt := 37) hx hb dX12_feed_30 (by decide) (fun h => absurd h (by decide)) (fun _ => ?_)
  refine lv_lload_n hx hb dX12_feed_33 rfl (lv_at hl 3 rfl) ?_
  refine lv_goto (tgt := 39) hx hb dX12_feed_34 (by decide) ?_
  refine lv_lstore (lv' := [(8, .long vb), (7, .int 8), (0, .ref z), (1, .long va), (3, .long vb), (5, .long vc)]) hx hb dX12_feed_39 hl (by decide) rfl (fun ls hl => ?_)
  refine lv_lload hx hb dX12_feed_41 (lv_at hl 0 rfl) ?_
  refine lv_bipush (v := 56) hx hb dX12_feed_43 (by decide) ?_
  refine lv_bipush (v := 8) hx hb dX12_feed_45 (by decide) ?_
  refine lv_iload hx hb dX12_feed_47 (lv_at hl 1 rfl) ?_
  refine lv_bipush (v := 7) hx hb dX12_feed_49 (by decide) ?_
  refine lv_iand hx hb dX12_feed_51 ?_
  refine lv_topi (fun x_223 ex_223 => ?_)
  obtain rfl : x_223 = 0 := ex_223.trans (by decide)
  refine lv_imul hx hb dX12_feed_52 ?_
  refine lv_topi (fun x_224 ex_224 => ?_)
  obtain rfl : x_224 = 0 := ex_224.trans (by decide)
  refine lv_isub hx hb dX12_feed_53 ?_
  refine lv_topi (fun x_225 ex_225 => ?_)
  obtain rfl : x_225 = 56 := ex_225.trans (by decide)
  refine lv_lushr hx hb dX12_feed_54 rfl ?_
  refine lv_topl (fun x_226 ex_226 => ?_)
  refine k_ldc2 hC gw_1389 dX12_feed_55 ?_
  refine lv_land hx hb dX12_feed_58 ?_
  refine lv_topl (fun x_227 ex_227 => ?_)
  refine lv_l2i hx hb dX12_feed_59 rfl ?_
  refine lv_topi (fun x_228 ex_228 => ?_)
  refine lv_istore (lv' := [(10, .int x_228), (8, .long vb), (7, .int 8), (0, .ref z), (1, .long va), (3, .long vb), (5, .long vc)]) hx hb dX12_feed_60 hl (by decide) rfl (fun ls hl => ?_)
  have hk : x_228 = kby vb 56 := by rw [ex_228, ex_227, k_land, ex_226]; rfl
  refine lv_aload_n hx hb dX12_feed_62 rfl (lv_at hl 3 rfl) ?_
  refine fg_RX12_148 hC hw 0 rfl rfl dX12_feed_63 ?_
  refine lv_sipush (v := 1000) hx hb dX12_feed_66 (by decide) ?_
  refine lv_icmp_ge (tgt := 114) hx hb dX12_feed_69 (by decide) (fun c69 => ?_) (fun c69 => ?_)
  · have hfull : ¬ n < 1000 := fun h9 => absurd c69 (nI_ge h9 (by decide))
    refine lv_iinc (v := 9) (lv' := [(7, .int 9), (10, .int x_228), (8, .long vb), (0, .ref z), (1, .long va), (3, .long vb), (5, .long vc)]) hx hb dX12_feed_114 hl (k := 2) rfl (by decide) (by decide) rfl (fun ls hl => ?_)
    refine lv_goto (tgt := 8) hx hb dX12_feed_117 (by decide) ?_
    have hst : kst n (kby vb 56) = n := by rw [← hk]; exact (by first | exact kst_full hfull | exact kst_a c76 hlt | exact kst_b c83 c90 hlt | exact kst_lo c76 c83 | exact kst_hi c76 c90)
    have hup : kup f n (kby vb 56) = f := by rw [← hk]; exact (by first | exact kup_full hfull | exact kup_lo c76 c83 | exact kup_hi c76 c90)
    exact mf_9 z z2 z10 z11 z12 z13 z14 z15 z16 z17 z18 z19 z22 z23 z24 z25 z26 z27 z28 z29 z30 z31 z32 z33 z36 z37 z38 z39 z40 z41 z42 z43 z44 z45 z46 z47 z48 z55 z56 z59 z60 z61 n3 n4 n5 n6 n7 n8 n9 n20 n21 n34 n35 n49 n50 n51 n52 n53 n54 n57 n58 n62 n63 va vb vc n f (by omega) F G (by have h9 : kad vc 8 (kad vb 7 (kst n (kby vb 56))) = F := hF; rw [hst] at h9; exact h9) (by have h9 : kfa vc 8 (kad vb 7 (kst n (kby vb 56))) (kfa vb 7 (kst n (kby vb 56)) (kup f n (kby vb 56))) = G := hG; rw [hst, hup] at h9; exact h9) hC hr hlocks _ _ (kW.sub hw [0, 1] rfl rfl) _ (lv_sub hl [0, 3, 4, 5, 6] rfl)
  · have hlt : n < 1000 := by rcases Nat.lt_or_ge n 1000 with h9 | h9; exact h9; exact absurd (nI_le h9 (by omega)) c69
    refine lv_iload hx hb dX12_feed_72 (lv_at hl 0 rfl) ?_
    refine lv_bipush (v := 10) hx hb dX12_feed_74 (by decide) ?_
    refine lv_icmp_eq (tgt := 93) hx hb dX12_feed_76 (by decide) (fun c76 => ?_) (fun c76 => ?_)
    · refine lv_aload_n hx hb dX12_feed_93 rfl (lv_at hl 3 rfl) ?_
      refine fg_RX12_7 hC hw 0 rfl rfl dX12_feed_94 ?_
      refine lv_aload_n hx hb dX12_feed_97 rfl (lv_at hl 3 rfl) ?_
      refine fg_RX12_148 hC hw 0 rfl rfl dX12_feed_98 ?_
      refine lv_iload hx hb dX12_feed_101 (lv_at hl 0 rfl) ?_
      refine k_iast hC hw 1 rfl (vp_in_nI hlt (by decide)) dX12_feed_103 (fun H locs hw => ?_)
      obtain ⟨f_229, ef_229⟩ : ∃ g, g = upd f ((nI n) : Int32).toNatClampNeg x_228 := ⟨_, rfl⟩
      have hw : kW γ A [(z, .inr (11, [.int 0, .int (nI n), .ref z2, .int n3, .int n4, .int n5, .int n6, .long n7, .int n8, .int n9, .ref z10, .ref z11, .ref z12, .ref z13, .ref z14, .ref z15, .ref z16, .ref z17, .ref z18, .ref z19, .int n20, .int n21, .ref z22, .ref z23, .ref z24, .ref z25, .ref z26, .ref z27, .ref z28, .ref z29, .ref z30, .ref z31, .ref z32, .ref z33, .int n34, .long n35, .ref z36, .ref z37, .ref z38, .ref z39, .ref z40, .ref z41, .ref z42, .ref z43, .ref z44, .ref z45, .ref z46, .ref z47, .ref z48, .int n49, .int n50, .int n51, .int n52, .int n53, .int n54, .ref z55, .ref z56, .int n57, .int n58, .ref z59, .ref z60, .ref z61, .int n62, .long n63])), (z2, .inl (γ.2.1 0, 1000, .inl f_229))] s H locs := by rw [ef_229]; exact hw
      refine lv_aload_n hx hb dX12_feed_104 rfl (lv_at hl 3 rfl) ?_
      refine lv_dup hx hb dX12_feed_105 rfl ?_
      refine fg_RX12_148 hC hw 0 rfl rfl dX12_feed_106 ?_
      refine lv_iconst (v := 1) hx hb dX12_feed_109 (by decide) ?_
      refine lv_iadd hx hb dX12_feed_110 ?_
      refine lv_topi (fun x_230 ex_230 => ?_)
      obtain rfl : x_230 = (nI (n + 1)) := ex_230.trans (nI_1 n)
      refine fs_RX12_148 hC hw 0 rfl rfl rfl (Nat.le_of_ble_eq_true rfl) dX12_feed_111 (fun H locs hw => ?_)
      have hw : kW γ A [(z, .inr (11, [.int 0, .int (nI (n + 1)), .ref z2, .int n3, .int n4, .int n5, .int n6, .long n7, .int n8, .int n9, .ref z10, .ref z11, .ref z12, .ref z13, .ref z14, .ref z15, .ref z16, .ref z17, .ref z18, .ref z19, .int n20, .int n21, .ref z22, .ref z23, .ref z24, .ref z25, .ref z26, .ref z27, .ref z28, .ref z29, .ref z30, .ref z31, .ref z32, .ref z33, .int n34, .long n35, .ref z36, .ref z37, .ref z38, .ref z39, .ref z40, .ref z41, .ref z42, .ref z43, .ref z44, .ref z45, .ref z46, .ref z47, .ref z48, .int n49, .int n50, .int n51, .int n52, .int n53, .int n54, .ref z55, .ref z56, .int n57, .int n58, .ref z59, .ref z60, .ref z61, .int n62, .long n63])), (z2, .inl (γ.2.1 0, 1000, .inl f_229))] s H locs := hw
      refine lv_iinc (v := 9) (lv' := [(7, .int 9), (10, .int x_228), (8, .long vb), (0, .ref z), (1, .long va), (3, .long vb), (5, .long vc)]) hx hb dX12_feed_114 hl (k := 2) rfl (by decide) (by decide) rfl (fun ls hl => ?_)
      refine lv_goto (tgt := 8) hx hb dX12_feed_117 (by decide) ?_
      have hst : kst n (kby vb 56) = (n + 1) := by rw [← hk]; exact (by first | exact kst_full hfull | exact kst_a c76 hlt | exact kst_b c83 c90 hlt | exact kst_lo c76 c83 | exact kst_hi c76 c90)
      have hup : kup f n (kby vb 56) = f_229 := by rw [← hk, ef_229, nI_clamp (by omega)]; exact kup_y (by first | exact kok_a c76 | exact kok_b c83 c90) hlt
      exact mf_9 z z2 z10 z11 z12 z13 z14 z15 z16 z17 z18 z19 z22 z23 z24 z25 z26 z27 z28 z29 z30 z31 z32 z33 z36 z37 z38 z39 z40 z41 z42 z43 z44 z45 z46 z47 z48 z55 z56 z59 z60 z61 n3 n4 n5 n6 n7 n8 n9 n20 n21 n34 n35 n49 n50 n51 n52 n53 n54 n57 n58 n62 n63 va vb vc (n + 1) f_229 (by omega) F G (by have h9 : kad vc 8 (kad vb 7 (kst n (kby vb 56))) = F := hF; rw [hst] at h9; exact h9) (by have h9 : kfa vc 8 (kad vb 7 (kst n (kby vb 56))) (kfa vb 7 (kst n (kby vb 56)) (kup f n (kby vb 56))) = G := hG; rw [hst, hup] at h9; exact h9) hC hr hlocks _ _ (kW.sub hw [0, 1] rfl rfl) _ (lv_sub hl [0, 3, 4, 5, 6] rfl)
    · refine lv_iload hx hb dX12_feed_79 (lv_at hl 0 rfl) ?_
      refine lv_bipush (v := 32) hx hb dX12_feed_81 (by decide) ?_
      refine lv_icmp_lt (tgt := 114) hx hb dX12_feed_83 (by decide) (fun c83 => ?_) (fun c83 => ?_)
      · refine lv_iinc (v := 9) (lv' := [(7, .int 9), (10, .int x_228), (8, .long vb), (0, .ref z), (1, .long va), (3, .long vb), (5, .long vc)]) hx hb dX12_feed_114 hl (k := 2) rfl (by decide) (by decide) rfl (fun ls hl => ?_)
        refine lv_goto (tgt := 8) hx hb dX12_feed_117 (by decide) ?_
        have hst : kst n (kby vb 56) = n := by rw [← hk]; exact (by first | exact kst_full hfull | exact kst_a c76 hlt | exact kst_b c83 c90 hlt | exact kst_lo c76 c83 | exact kst_hi c76 c90)
        have hup : kup f n (kby vb 56) = f := by rw [← hk]; exact (by first | exact kup_full hfull | exact kup_lo c76 c83 | exact kup_hi c76 c90)
        exact mf_9 z z2 z10 z11 z12 z13 z14 z15 z16 z17 z18 z19 z22 z23 z24 z25 z26 z27 z28 z29 z30 z31 z32 z33 z36 z37 z38 z39 z40 z41 z42 z43 z44 z45 z46 z47 z48 z55 z56 z59 z60 z61 n3 n4 n5 n6 n7 n8 n9 n20 n21 n34 n35 n49 n50 n51 n52 n53 n54 n57 n58 n62 n63 va vb vc n f (by omega) F G (by have h9 : kad vc 8 (kad vb 7 (kst n (kby vb 56))) = F := hF; rw [hst] at h9; exact h9) (by have h9 : kfa vc 8 (kad vb 7 (kst n (kby vb 56))) (kfa vb 7 (kst n (kby vb 56)) (kup f n (kby vb 56))) = G := hG; rw [hst, hup] at h9; exact h9) hC hr hlocks _ _ (kW.sub hw [0, 1] rfl rfl) _ (lv_sub hl [0, 3, 4, 5, 6] rfl)
      · refine lv_iload hx hb dX12_feed_86 (lv_at hl 0 rfl) ?_
        refine lv_bipush (v := 126) hx hb dX12_feed_88 (by decide) ?_
        refine lv_icmp_gt (tgt := 114) hx hb dX12_feed_90 (by decide) (fun c90 => ?_) (fun c90 => ?_)
        · refine lv_iinc (v := 9) (lv' := [(7, .int 9), (10, .int x_228), (8, .long vb), (0, .ref z), (1, .long va), (3, .long vb), (5, .long vc)]) hx hb dX12_feed_114 hl (k := 2) rfl (by decide) (by decide) rfl (fun ls hl => ?_)
          refine lv_goto (tgt := 8) hx hb dX12_feed_117 (by decide) ?_
          have hst : kst n (kby vb 56) = n := by rw [← hk]; exact (by first | exact kst_full hfull | exact kst_a c76 hlt | exact kst_b c83 c90 hlt | exact kst_lo c76 c83 | exact kst_hi c76 c90)
          have hup : kup f n (kby vb 56) = f := by rw [← hk]; exact (by first | exact kup_full hfull | exact kup_lo c76 c83 | exact kup_hi c76 c90)
          exact mf_9 z z2 z10 z11 z12 z13 z14 z15 z16 z17 z18 z19 z22 z23 z24 z25 z26 z27 z28 z29 z30 z31 z32 z33 z36 z37 z38 z39 z40 z41 z42 z43 z44 z45 z46 z47 z48 z55 z56 z59 z60 z61 n3 n4 n5 n6 n7 n8 n9 n20 n21 n34 n35 n49 n50 n51 n52 n53 n54 n57 n58 n62 n63 va vb vc n f (by omega) F G (by have h9 : kad vc 8 (kad vb 7 (kst n (kby vb 56))) = F := hF; rw [hst] at h9; exact h9) (by have h9 : kfa vc 8 (kad vb 7 (kst n (kby vb 56))) (kfa vb 7 (kst n (kby vb 56)) (kup f n (kby vb 56))) = G := hG; rw [hst, hup] at h9; exact h9) hC hr hlocks _ _ (kW.sub hw [0, 1] rfl rfl) _ (lv_sub hl [0, 3, 4, 5, 6] rfl)
        · refine lv_aload_n hx hb dX12_feed_93 rfl (lv_at hl 3 rfl) ?_
          refine fg_RX12_7 hC hw 0 rfl rfl dX12_feed_94 ?_
          refine lv_aload_n hx hb dX12_feed_97 rfl (lv_at hl 3 rfl) ?_
          refine fg_RX12_148 hC hw 0 rfl rfl dX12_feed_98 ?_
          refine lv_iload hx hb dX12_feed_101 (lv_at hl 0 rfl) ?_
          refine k_iast hC hw 1 rfl (vp_in_nI hlt (by decide)) dX12_feed_103 (fun H locs hw => ?_)
          obtain ⟨f_231, ef_231⟩ : ∃ g, g = upd f ((nI n) : Int32).toNatClampNeg x_228 := ⟨_, rfl⟩
          have hw : kW γ A [(z, .inr (11, [.int 0, .int (nI n), .ref z2, .int n3, .int n4, .int n5, .int n6, .long n7, .int n8, .int n9, .ref z10, .ref z11, .ref z12, .ref z13, .ref z14, .ref z15, .ref z16, .ref z17, .ref z18, .ref z19, .int n20, .int n21, .ref z22, .ref z23, .ref z24, .ref z25, .ref z26, .ref z27, .ref z28, .ref z29, .ref z30, .ref z31, .ref z32, .ref z33, .int n34, .long n35, .ref z36, .ref z37, .ref z38, .ref z39, .ref z40, .ref z41, .ref z42, .ref z43, .ref z44, .ref z45, .ref z46, .ref z47, .ref z48, .int n49, .int n50, .int n51, .int n52, .int n53, .int n54, .ref z55, .ref z56, .int n57, .int n58, .ref z59, .ref z60, .ref z61, .int n62, .long n63])), (z2, .inl (γ.2.1 0, 1000, .inl f_231))] s H locs := by rw [ef_231]; exact hw
          refine lv_aload_n hx hb dX12_feed_104 rfl (lv_at hl 3 rfl) ?_
          refine lv_dup hx hb dX12_feed_105 rfl ?_
          refine fg_RX12_148 hC hw 0 rfl rfl dX12_feed_106 ?_
          refine lv_iconst (v := 1) hx hb dX12_feed_109 (by decide) ?_
          refine lv_iadd hx hb dX12_feed_110 ?_
          refine lv_topi (fun x_232 ex_232 => ?_)
          obtain rfl : x_232 = (nI (n + 1)) := ex_232.trans (nI_1 n)
          refine fs_RX12_148 hC hw 0 rfl rfl rfl (Nat.le_of_ble_eq_true rfl) dX12_feed_111 (fun H locs hw => ?_)
          have hw : kW γ A [(z, .inr (11, [.int 0, .int (nI (n + 1)), .ref z2, .int n3, .int n4, .int n5, .int n6, .long n7, .int n8, .int n9, .ref z10, .ref z11, .ref z12, .ref z13, .ref z14, .ref z15, .ref z16, .ref z17, .ref z18, .ref z19, .int n20, .int n21, .ref z22, .ref z23, .ref z24, .ref z25, .ref z26, .ref z27, .ref z28, .ref z29, .ref z30, .ref z31, .ref z32, .ref z33, .int n34, .long n35, .ref z36, .ref z37, .ref z38, .ref z39, .ref z40, .ref z41, .ref z42, .ref z43, .ref z44, .ref z45, .ref z46, .ref z47, .ref z48, .int n49, .int n50, .int n51, .int n52, .int n53, .int n54, .ref z55, .ref z56, .int n57, .int n58, .ref z59, .ref z60, .ref z61, .int n62, .long n63])), (z2, .inl (γ.2.1 0, 1000, .inl f_231))] s H locs := hw
          refine lv_iinc (v := 9) (lv' := [(7, .int 9), (10, .int x_228), (8, .long vb), (0, .ref z), (1, .long va), (3, .long vb), (5, .long vc)]) hx hb dX12_feed_114 hl (k := 2) rfl (by decide) (by decide) rfl (fun ls hl => ?_)
          refine lv_goto (tgt := 8) hx hb dX12_feed_117 (by decide) ?_
          have hst : kst n (kby vb 56) = (n + 1) := by rw [← hk]; exact (by first | exact kst_full hfull | exact kst_a c76 hlt | exact kst_b c83 c90 hlt | exact kst_lo c76 c83 | exact kst_hi c76 c90)
          have hup : kup f n (kby vb 56) = f_231 := by rw [← hk, ef_231, nI_clamp (by omega)]; exact kup_y (by first | exact kok_a c76 | exact kok_b c83 c90) hlt
          exact mf_9 z z2 z10 z11 z12 z13 z14 z15 z16 z17 z18 z19 z22 z23 z24 z25 z26 z27 z28 z29 z30 z31 z32 z33 z36 z37 z38 z39 z40 z41 z42 z43 z44 z45 z46 z47 z48 z55 z56 z59 z60 z61 n3 n4 n5 n6 n7 n8 n9 n20 n21 n34 n35 n49 n50 n51 n52 n53 n54 n57 n58 n62 n63 va vb vc (n + 1) f_231 (by omega) F G (by have h9 : kad vc 8 (kad vb 7 (kst n (kby vb 56))) = F := hF; rw [hst] at h9; exact h9) (by have h9 : kfa vc 8 (kad vb 7 (kst n (kby vb 56))) (kfa vb 7 (kst n (kby vb 56)) (kup f n (kby vb 56))) = G := hG; rw [hst, hup] at h9; exact h9) hC hr hlocks _ _ (kW.sub hw [0, 1] rfl rfl) _ (lv_sub hl [0, 3, 4, 5, 6] rfl)

set_option maxHeartbeats 4000000 in
set_option maxRecDepth 100000 in
theorem mf_7 {γ : kΓ} {l : Launch} {p : Program} {e : Env} {s : State} {m : MethodId} {below : List Frame} {meth : Method} {c : Code} {A : Nat → Prop} (z : Nat) (z2 : Nat) (z10 : Nat) (z11 : Nat) (z12 : Nat) (z13 : Nat) (z14 : Nat) (z15 : Nat) (z16 : Nat) (z17 : Nat) (z18 : Nat) (z19 : Nat) (z22 : Nat) (z23 : Nat) (z24 : Nat) (z25 : Nat) (z26 : Nat) (z27 : Nat) (z28 : Nat) (z29 : Nat) (z30 : Nat) (z31 : Nat) (z32 : Nat) (z33 : Nat) (z36 : Nat) (z37 : Nat) (z38 : Nat) (z39 : Nat) (z40 : Nat) (z41 : Nat) (z42 : Nat) (z43 : Nat) (z44 : Nat) (z45 : Nat) (z46 : Nat) (z47 : Nat) (z48 : Nat) (z55 : Nat) (z56 : Nat) (z59 : Nat) (z60 : Nat) (z61 : Nat) (n3 : Int32) (n4 : Int32) (n5 : Int32) (n6 : Int32) (n7 : Int64) (n8 : Int32) (n9 : Int32) (n20 : Int32) (n21 : Int32) (n34 : Int32) (n35 : Int64) (n49 : Int32) (n50 : Int32) (n51 : Int32) (n52 : Int32) (n53 : Int32) (n54 : Int32) (n57 : Int32) (n58 : Int32) (n62 : Int32) (n63 : Int64) (va : Int64) (vb : Int64) (vc : Int64) (n : Nat) (f : Nat → Int32) (hn : n ≤ 1000) (F : Nat) (G : Nat → Int32) (hF : kad vc 8 (kad vb 8 (kad va 1 n)) = F) (hG : kfa vc 8 (kad vb 8 (kad va 1 n)) (kfa vb 8 (kad va 1 n) (kfa va 1 n f)) = G) (hC : kC γ p s m [.ref z, .long va, .long vb, .long vc].toArray c cX12_feed 11 RX12 A) (hr : meth.sig.returnType = (some .int)) (hlocks : meth.locks = false) (H : Heap) (locs : List Loc) (hw : kW γ A [(z, .inr (11, [.int 0, .int (nI n), .ref z2, .int n3, .int n4, .int n5, .int n6, .long n7, .int n8, .int n9, .ref z10, .ref z11, .ref z12, .ref z13, .ref z14, .ref z15, .ref z16, .ref z17, .ref z18, .ref z19, .int n20, .int n21, .ref z22, .ref z23, .ref z24, .ref z25, .ref z26, .ref z27, .ref z28, .ref z29, .ref z30, .ref z31, .ref z32, .ref z33, .int n34, .long n35, .ref z36, .ref z37, .ref z38, .ref z39, .ref z40, .ref z41, .ref z42, .ref z43, .ref z44, .ref z45, .ref z46, .ref z47, .ref z48, .int n49, .int n50, .int n51, .int n52, .int n53, .int n54, .ref z55, .ref z56, .int n57, .int n58, .ref z59, .ref z60, .ref z61, .int n62, .long n63])), (z2, .inl (γ.2.1 0, 1000, .inl f))] s H locs) (ls : Array Slot) (hl : lv_has ls 11 [(7, .int 7), (0, .ref z), (1, .long va), (3, .long vb), (5, .long vc)]) : W p l e ({ frames := 0, cells := 0, slots := 0, locals := 0 } : Room) s m [.ref z, .long va, .long vb, .long vc].toArray below meth c H locs 0 0 (MQ below (kQ γ A (fun r w1 => r = some (.int (nI F)) ∧ w1 = [(z, .inr (11, [.int 0, .int (nI F), .ref z2, .int n3, .int n4, .int n5, .int n6, .long n7, .int n8, .int n9, .ref z10, .ref z11, .ref z12, .ref z13, .ref z14, .ref z15, .ref z16, .ref z17, .ref z18, .ref z19, .int n20, .int n21, .ref z22, .ref z23, .ref z24, .ref z25, .ref z26, .ref z27, .ref z28, .ref z29, .ref z30, .ref z31, .ref z32, .ref z33, .int n34, .long n35, .ref z36, .ref z37, .ref z38, .ref z39, .ref z40, .ref z41, .ref z42, .ref z43, .ref z44, .ref z45, .ref z46, .ref z47, .ref z48, .int n49, .int n50, .int n51, .int n52, .int n53, .int n54, .ref z55, .ref z56, .int n57, .int n58, .ref z59, .ref z60, .ref z61, .int n62, .long n63])), (z2, .inl (γ.2.1 0, 1000, .inl G))])) [.ref z, .long va, .long vb, .long vc].toArray s 0 0 A) (F0 m 8 ls []) := by
  have hx := hC.1
  have hb := hC.2.1
  refine lv_iload hx hb dX12_feed_8 (lv_at hl 0 rfl) ?_
  refine lv_bipush (v := 24) hx hb dX12_feed_10 (by decide) ?_
  refine lv_icmp_ge (tgt := 120) hx hb dX12_feed_12 (by decide) (fun h => absurd h (by decide)) (fun _ => ?_)
  refine lv_iload hx hb dX12_feed_15 (lv_at hl 0 rfl) ?_
  refine lv_bipush (v := 8) hx hb dX12_feed_17 (by decide) ?_
  refine lv_icmp_ge (tgt := 26) hx hb dX12_feed_19 (by decide) (fun h => absurd h (by decide)) (fun _ => ?_)
  refine lv_lload_n hx hb dX12_feed_22 rfl (lv_at hl 2 rfl) ?_
  refine lv_goto (tgt := 39) hx hb dX12_feed_23 (by decide) ?_
  refine lv_lstore (lv' := [(8, .long va), (7, .int 7), (0, .ref z), (1, .long va), (3, .long vb), (5, .long vc)]) hx hb dX12_feed_39 hl (by decide) rfl (fun ls hl => ?_)
  refine lv_lload hx hb dX12_feed_41 (lv_at hl 0 rfl) ?_
  refine lv_bipush (v := 56) hx hb dX12_feed_43 (by decide) ?_
  refine lv_bipush (v := 8) hx hb dX12_feed_45 (by decide) ?_
  refine lv_iload hx hb dX12_feed_47 (lv_at hl 1 rfl) ?_
  refine lv_bipush (v := 7) hx hb dX12_feed_49 (by decide) ?_
  refine lv_iand hx hb dX12_feed_51 ?_
  refine lv_topi (fun x_233 ex_233 => ?_)
  obtain rfl : x_233 = 7 := ex_233.trans (by decide)
  refine lv_imul hx hb dX12_feed_52 ?_
  refine lv_topi (fun x_234 ex_234 => ?_)
  obtain rfl : x_234 = 56 := ex_234.trans (by decide)
  refine lv_isub hx hb dX12_feed_53 ?_
  refine lv_topi (fun x_235 ex_235 => ?_)
  obtain rfl : x_235 = 0 := ex_235.trans (by decide)
  refine lv_lushr hx hb dX12_feed_54 rfl ?_
  refine lv_topl (fun x_236 ex_236 => ?_)
  refine k_ldc2 hC gw_1389 dX12_feed_55 ?_
  refine lv_land hx hb dX12_feed_58 ?_
  refine lv_topl (fun x_237 ex_237 => ?_)
  refine lv_l2i hx hb dX12_feed_59 rfl ?_
  refine lv_topi (fun x_238 ex_238 => ?_)
  refine lv_istore (lv' := [(10, .int x_238), (8, .long va), (7, .int 7), (0, .ref z), (1, .long va), (3, .long vb), (5, .long vc)]) hx hb dX12_feed_60 hl (by decide) rfl (fun ls hl => ?_)
  have hk : x_238 = kby va 0 := by rw [ex_238, ex_237, k_land, ex_236]; rfl
  refine lv_aload_n hx hb dX12_feed_62 rfl (lv_at hl 3 rfl) ?_
  refine fg_RX12_148 hC hw 0 rfl rfl dX12_feed_63 ?_
  refine lv_sipush (v := 1000) hx hb dX12_feed_66 (by decide) ?_
  refine lv_icmp_ge (tgt := 114) hx hb dX12_feed_69 (by decide) (fun c69 => ?_) (fun c69 => ?_)
  · have hfull : ¬ n < 1000 := fun h9 => absurd c69 (nI_ge h9 (by decide))
    refine lv_iinc (v := 8) (lv' := [(7, .int 8), (10, .int x_238), (8, .long va), (0, .ref z), (1, .long va), (3, .long vb), (5, .long vc)]) hx hb dX12_feed_114 hl (k := 2) rfl (by decide) (by decide) rfl (fun ls hl => ?_)
    refine lv_goto (tgt := 8) hx hb dX12_feed_117 (by decide) ?_
    have hst : kst n (kby va 0) = n := by rw [← hk]; exact (by first | exact kst_full hfull | exact kst_a c76 hlt | exact kst_b c83 c90 hlt | exact kst_lo c76 c83 | exact kst_hi c76 c90)
    have hup : kup f n (kby va 0) = f := by rw [← hk]; exact (by first | exact kup_full hfull | exact kup_lo c76 c83 | exact kup_hi c76 c90)
    exact mf_8 z z2 z10 z11 z12 z13 z14 z15 z16 z17 z18 z19 z22 z23 z24 z25 z26 z27 z28 z29 z30 z31 z32 z33 z36 z37 z38 z39 z40 z41 z42 z43 z44 z45 z46 z47 z48 z55 z56 z59 z60 z61 n3 n4 n5 n6 n7 n8 n9 n20 n21 n34 n35 n49 n50 n51 n52 n53 n54 n57 n58 n62 n63 va vb vc n f (by omega) F G (by have h9 : kad vc 8 (kad vb 8 (kst n (kby va 0))) = F := hF; rw [hst] at h9; exact h9) (by have h9 : kfa vc 8 (kad vb 8 (kst n (kby va 0))) (kfa vb 8 (kst n (kby va 0)) (kup f n (kby va 0))) = G := hG; rw [hst, hup] at h9; exact h9) hC hr hlocks _ _ (kW.sub hw [0, 1] rfl rfl) _ (lv_sub hl [0, 3, 4, 5, 6] rfl)
  · have hlt : n < 1000 := by rcases Nat.lt_or_ge n 1000 with h9 | h9; exact h9; exact absurd (nI_le h9 (by omega)) c69
    refine lv_iload hx hb dX12_feed_72 (lv_at hl 0 rfl) ?_
    refine lv_bipush (v := 10) hx hb dX12_feed_74 (by decide) ?_
    refine lv_icmp_eq (tgt := 93) hx hb dX12_feed_76 (by decide) (fun c76 => ?_) (fun c76 => ?_)
    · refine lv_aload_n hx hb dX12_feed_93 rfl (lv_at hl 3 rfl) ?_
      refine fg_RX12_7 hC hw 0 rfl rfl dX12_feed_94 ?_
      refine lv_aload_n hx hb dX12_feed_97 rfl (lv_at hl 3 rfl) ?_
      refine fg_RX12_148 hC hw 0 rfl rfl dX12_feed_98 ?_
      refine lv_iload hx hb dX12_feed_101 (lv_at hl 0 rfl) ?_
      refine k_iast hC hw 1 rfl (vp_in_nI hlt (by decide)) dX12_feed_103 (fun H locs hw => ?_)
      obtain ⟨f_239, ef_239⟩ : ∃ g, g = upd f ((nI n) : Int32).toNatClampNeg x_238 := ⟨_, rfl⟩
      have hw : kW γ A [(z, .inr (11, [.int 0, .int (nI n), .ref z2, .int n3, .int n4, .int n5, .int n6, .long n7, .int n8, .int n9, .ref z10, .ref z11, .ref z12, .ref z13, .ref z14, .ref z15, .ref z16, .ref z17, .ref z18, .ref z19, .int n20, .int n21, .ref z22, .ref z23, .ref z24, .ref z25, .ref z26, .ref z27, .ref z28, .ref z29, .ref z30, .ref z31, .ref z32, .ref z33, .int n34, .long n35, .ref z36, .ref z37, .ref z38, .ref z39, .ref z40, .ref z41, .ref z42, .ref z43, .ref z44, .ref z45, .ref z46, .ref z47, .ref z48, .int n49, .int n50, .int n51, .int n52, .int n53, .int n54, .ref z55, .ref z56, .int n57, .int n58, .ref z59, .ref z60, .ref z61, .int n62, .long n63])), (z2, .inl (γ.2.1 0, 1000, .inl f_239))] s H locs := by rw [ef_239]; exact hw
      refine lv_aload_n hx hb dX12_feed_104 rfl (lv_at hl 3 rfl) ?_
      refine lv_dup hx hb dX12_feed_105 rfl ?_
      refine fg_RX12_148 hC hw 0 rfl rfl dX12_feed_106 ?_
      refine lv_iconst (v := 1) hx hb dX12_feed_109 (by decide) ?_
      refine lv_iadd hx hb dX12_feed_110 ?_
      refine lv_topi (fun x_240 ex_240 => ?_)
      obtain rfl : x_240 = (nI (n + 1)) := ex_240.trans (nI_1 n)
      refine fs_RX12_148 hC hw 0 rfl rfl rfl (Nat.le_of_ble_eq_true rfl) dX12_feed_111 (fun H locs hw => ?_)
      have hw : kW γ A [(z, .inr (11, [.int 0, .int (nI (n + 1)), .ref z2, .int n3, .int n4, .int n5, .int n6, .long n7, .int n8, .int n9, .ref z10, .ref z11, .ref z12, .ref z13, .ref z14, .ref z15, .ref z16, .ref z17, .ref z18, .ref z19, .int n20, .int n21, .ref z22, .ref z23, .ref z24, .ref z25, .ref z26, .ref z27, .ref z28, .ref z29, .ref z30, .ref z31, .ref z32, .ref z33, .int n34, .long n35, .ref z36, .ref z37, .ref z38, .ref z39, .ref z40, .ref z41, .ref z42, .ref z43, .ref z44, .ref z45, .ref z46, .ref z47, .ref z48, .int n49, .int n50, .int n51, .int n52, .int n53, .int n54, .ref z55, .ref z56, .int n57, .int n58, .ref z59, .ref z60, .ref z61, .int n62, .long n63])), (z2, .inl (γ.2.1 0, 1000, .inl f_239))] s H locs := hw
      refine lv_iinc (v := 8) (lv' := [(7, .int 8), (10, .int x_238), (8, .long va), (0, .ref z), (1, .long va), (3, .long vb), (5, .long vc)]) hx hb dX12_feed_114 hl (k := 2) rfl (by decide) (by decide) rfl (fun ls hl => ?_)
      refine lv_goto (tgt := 8) hx hb dX12_feed_117 (by decide) ?_
      have hst : kst n (kby va 0) = (n + 1) := by rw [← hk]; exact (by first | exact kst_full hfull | exact kst_a c76 hlt | exact kst_b c83 c90 hlt | exact kst_lo c76 c83 | exact kst_hi c76 c90)
      have hup : kup f n (kby va 0) = f_239 := by rw [← hk, ef_239, nI_clamp (by omega)]; exact kup_y (by first | exact kok_a c76 | exact kok_b c83 c90) hlt
      exact mf_8 z z2 z10 z11 z12 z13 z14 z15 z16 z17 z18 z19 z22 z23 z24 z25 z26 z27 z28 z29 z30 z31 z32 z33 z36 z37 z38 z39 z40 z41 z42 z43 z44 z45 z46 z47 z48 z55 z56 z59 z60 z61 n3 n4 n5 n6 n7 n8 n9 n20 n21 n34 n35 n49 n50 n51 n52 n53 n54 n57 n58 n62 n63 va vb vc (n + 1) f_239 (by omega) F G (by have h9 : kad vc 8 (kad vb 8 (kst n (kby va 0))) = F := hF; rw [hst] at h9; exact h9) (by have h9 : kfa vc 8 (kad vb 8 (kst n (kby va 0))) (kfa vb 8 (kst n (kby va 0)) (kup f n (kby va 0))) = G := hG; rw [hst, hup] at h9; exact h9) hC hr hlocks _ _ (kW.sub hw [0, 1] rfl rfl) _ (lv_sub hl [0, 3, 4, 5, 6] rfl)
    · refine lv_iload hx hb dX12_feed_79 (lv_at hl 0 rfl) ?_
      refine lv_bipush (v := 32) hx hb dX12_feed_81 (by decide) ?_
      refine lv_icmp_lt (tgt := 114) hx hb dX12_feed_83 (by decide) (fun c83 => ?_) (fun c83 => ?_)
      · refine lv_iinc (v := 8) (lv' := [(7, .int 8), (10, .int x_238), (8, .long va), (0, .ref z), (1, .long va), (3, .long vb), (5, .long vc)]) hx hb dX12_feed_114 hl (k := 2) rfl (by decide) (by decide) rfl (fun ls hl => ?_)
        refine lv_goto (tgt := 8) hx hb dX12_feed_117 (by decide) ?_
        have hst : kst n (kby va 0) = n := by rw [← hk]; exact (by first | exact kst_full hfull | exact kst_a c76 hlt | exact kst_b c83 c90 hlt | exact kst_lo c76 c83 | exact kst_hi c76 c90)
        have hup : kup f n (kby va 0) = f := by rw [← hk]; exact (by first | exact kup_full hfull | exact kup_lo c76 c83 | exact kup_hi c76 c90)
        exact mf_8 z z2 z10 z11 z12 z13 z14 z15 z16 z17 z18 z19 z22 z23 z24 z25 z26 z27 z28 z29 z30 z31 z32 z33 z36 z37 z38 z39 z40 z41 z42 z43 z44 z45 z46 z47 z48 z55 z56 z59 z60 z61 n3 n4 n5 n6 n7 n8 n9 n20 n21 n34 n35 n49 n50 n51 n52 n53 n54 n57 n58 n62 n63 va vb vc n f (by omega) F G (by have h9 : kad vc 8 (kad vb 8 (kst n (kby va 0))) = F := hF; rw [hst] at h9; exact h9) (by have h9 : kfa vc 8 (kad vb 8 (kst n (kby va 0))) (kfa vb 8 (kst n (kby va 0)) (kup f n (kby va 0))) = G := hG; rw [hst, hup] at h9; exact h9) hC hr hlocks _ _ (kW.sub hw [0, 1] rfl rfl) _ (lv_sub hl [0, 3, 4, 5, 6] rfl)
      · refine lv_iload hx hb dX12_feed_86 (lv_at hl 0 rfl) ?_
        refine lv_bipush (v := 126) hx hb dX12_feed_88 (by decide) ?_
        refine lv_icmp_gt (tgt := 114) hx hb dX12_feed_90 (by decide) (fun c90 => ?_) (fun c90 => ?_)
        · refine lv_iinc (v := 8) (lv' := [(7, .int 8), (10, .int x_238), (8, .long va), (0, .ref z), (1, .long va), (3, .long vb), (5, .long vc)]) hx hb dX12_feed_114 hl (k := 2) rfl (by decide) (by decide) rfl (fun ls hl => ?_)
          refine lv_goto (tgt := 8) hx hb dX12_feed_117 (by decide) ?_
          have hst : kst n (kby va 0) = n := by rw [← hk]; exact (by first | exact kst_full hfull | exact kst_a c76 hlt | exact kst_b c83 c90 hlt | exact kst_lo c76 c83 | exact kst_hi c76 c90)
          have hup : kup f n (kby va 0) = f := by rw [← hk]; exact (by first | exact kup_full hfull | exact kup_lo c76 c83 | exact kup_hi c76 c90)
          exact mf_8 z z2 z10 z11 z12 z13 z14 z15 z16 z17 z18 z19 z22 z23 z24 z25 z26 z27 z28 z29 z30 z31 z32 z33 z36 z37 z38 z39 z40 z41 z42 z43 z44 z45 z46 z47 z48 z55 z56 z59 z60 z61 n3 n4 n5 n6 n7 n8 n9 n20 n21 n34 n35 n49 n50 n51 n52 n53 n54 n57 n58 n62 n63 va vb vc n f (by omega) F G (by have h9 : kad vc 8 (kad vb 8 (kst n (kby va 0))) = F := hF; rw [hst] at h9; exact h9) (by have h9 : kfa vc 8 (kad vb 8 (kst n (kby va 0))) (kfa vb 8 (kst n (kby va 0)) (kup f n (kby va 0))) = G := hG; rw [hst, hup] at h9; exact h9) hC hr hlocks _ _ (kW.sub hw [0, 1] rfl rfl) _ (lv_sub hl [0, 3, 4, 5, 6] rfl)
        · refine lv_aload_n hx hb dX12_feed_93 rfl (lv_at hl 3 rfl) ?_
          refine fg_RX12_7 hC hw 0 rfl rfl dX12_feed_94 ?_
          refine lv_aload_n hx hb dX12_feed_97 rfl (lv_at hl 3 rfl) ?_
          refine fg_RX12_148 hC hw 0 rfl rfl dX12_feed_98 ?_
          refine lv_iload hx hb dX12_feed_101 (lv_at hl 0 rfl) ?_
          refine k_iast hC hw 1 rfl (vp_in_nI hlt (by decide)) dX12_feed_103 (fun H locs hw => ?_)
          obtain ⟨f_241, ef_241⟩ : ∃ g, g = upd f ((nI n) : Int32).toNatClampNeg x_238 := ⟨_, rfl⟩
          have hw : kW γ A [(z, .inr (11, [.int 0, .int (nI n), .ref z2, .int n3, .int n4, .int n5, .int n6, .long n7, .int n8, .int n9, .ref z10, .ref z11, .ref z12, .ref z13, .ref z14, .ref z15, .ref z16, .ref z17, .ref z18, .ref z19, .int n20, .int n21, .ref z22, .ref z23, .ref z24, .ref z25, .ref z26, .ref z27, .ref z28, .ref z29, .ref z30, .ref z31, .ref z32, .ref z33, .int n34, .long n35, .ref z36, .ref z37, .ref z38, .ref z39, .ref z40, .ref z41, .ref z42, .ref z43, .ref z44, .ref z45, .ref z46, .ref z47, .ref z48, .int n49, .int n50, .int n51, .int n52, .int n53, .int n54, .ref z55, .ref z56, .int n57, .int n58, .ref z59, .ref z60, .ref z61, .int n62, .long n63])), (z2, .inl (γ.2.1 0, 1000, .inl f_241))] s H locs := by rw [ef_241]; exact hw
          refine lv_aload_n hx hb dX12_feed_104 rfl (lv_at hl 3 rfl) ?_
          refine lv_dup hx hb dX12_feed_105 rfl ?_
          refine fg_RX12_148 hC hw 0 rfl rfl dX12_feed_106 ?_
          refine lv_iconst (v := 1) hx hb dX12_feed_109 (by decide) ?_
          refine lv_iadd hx hb dX12_feed_110 ?_
          refine lv_topi (fun x_242 ex_242 => ?_)
          obtain rfl : x_242 = (nI (n + 1)) := ex_242.trans (nI_1 n)
          refine fs_RX12_148 hC hw 0 rfl rfl rfl (Nat.le_of_ble_eq_true rfl) dX12_feed_111 (fun H locs hw => ?_)
          have hw : kW γ A [(z, .inr (11, [.int 0, .int (nI (n + 1)), .ref z2, .int n3, .int n4, .int n5, .int n6, .long n7, .int n8, .int n9, .ref z10, .ref z11, .ref z12, .ref z13, .ref z14, .ref z15, .ref z16, .ref z17, .ref z18, .ref z19, .int n20, .int n21, .ref z22, .ref z23, .ref z24, .ref z25, .ref z26, .ref z27, .ref z28, .ref z29, .ref z30, .ref z31, .ref z32, .ref z33, .int n34, .long n35, .ref z36, .ref z37, .ref z38, .ref z39, .ref z40, .ref z41, .ref z42, .ref z43, .ref z44, .ref z45, .ref z46, .ref z47, .ref z48, .int n49, .int n50, .int n51, .int n52, .int n53, .int n54, .ref z55, .ref z56, .int n57, .int n58, .ref z59, .ref z60, .ref z61, .int n62, .long n63])), (z2, .inl (γ.2.1 0, 1000, .inl f_241))] s H locs := hw
          refine lv_iinc (v := 8) (lv' := [(7, .int 8), (10, .int x_238), (8, .long va), (0, .ref z), (1, .long va), (3, .long vb), (5, .long vc)]) hx hb dX12_feed_114 hl (k := 2) rfl (by decide) (by decide) rfl (fun ls hl => ?_)
          refine lv_goto (tgt := 8) hx hb dX12_feed_117 (by decide) ?_
          have hst : kst n (kby va 0) = (n + 1) := by rw [← hk]; exact (by first | exact kst_full hfull | exact kst_a c76 hlt | exact kst_b c83 c90 hlt | exact kst_lo c76 c83 | exact kst_hi c76 c90)
          have hup : kup f n (kby va 0) = f_241 := by rw [← hk, ef_241, nI_clamp (by omega)]; exact kup_y (by first | exact kok_a c76 | exact kok_b c83 c90) hlt
          exact mf_8 z z2 z10 z11 z12 z13 z14 z15 z16 z17 z18 z19 z22 z23 z24 z25 z26 z27 z28 z29 z30 z31 z32 z33 z36 z37 z38 z39 z40 z41 z42 z43 z44 z45 z46 z47 z48 z55 z56 z59 z60 z61 n3 n4 n5 n6 n7 n8 n9 n20 n21 n34 n35 n49 n50 n51 n52 n53 n54 n57 n58 n62 n63 va vb vc (n + 1) f_241 (by omega) F G (by have h9 : kad vc 8 (kad vb 8 (kst n (kby va 0))) = F := hF; rw [hst] at h9; exact h9) (by have h9 : kfa vc 8 (kad vb 8 (kst n (kby va 0))) (kfa vb 8 (kst n (kby va 0)) (kup f n (kby va 0))) = G := hG; rw [hst, hup] at h9; exact h9) hC hr hlocks _ _ (kW.sub hw [0, 1] rfl rfl) _ (lv_sub hl [0, 3, 4, 5, 6] rfl)

set_option maxHeartbeats 4000000 in
set_option maxRecDepth 100000 in
theorem mf_6 {γ : kΓ} {l : Launch} {p : Program} {e : Env} {s : State} {m : MethodId} {below : List Frame} {meth : Method} {c : Code} {A : Nat → Prop} (z : Nat) (z2 : Nat) (z10 : Nat) (z11 : Nat) (z12 : Nat) (z13 : Nat) (z14 : Nat) (z15 : Nat) (z16 : Nat) (z17 : Nat) (z18 : Nat) (z19 : Nat) (z22 : Nat) (z23 : Nat) (z24 : Nat) (z25 : Nat) (z26 : Nat) (z27 : Nat) (z28 : Nat) (z29 : Nat) (z30 : Nat) (z31 : Nat) (z32 : Nat) (z33 : Nat) (z36 : Nat) (z37 : Nat) (z38 : Nat) (z39 : Nat) (z40 : Nat) (z41 : Nat) (z42 : Nat) (z43 : Nat) (z44 : Nat) (z45 : Nat) (z46 : Nat) (z47 : Nat) (z48 : Nat) (z55 : Nat) (z56 : Nat) (z59 : Nat) (z60 : Nat) (z61 : Nat) (n3 : Int32) (n4 : Int32) (n5 : Int32) (n6 : Int32) (n7 : Int64) (n8 : Int32) (n9 : Int32) (n20 : Int32) (n21 : Int32) (n34 : Int32) (n35 : Int64) (n49 : Int32) (n50 : Int32) (n51 : Int32) (n52 : Int32) (n53 : Int32) (n54 : Int32) (n57 : Int32) (n58 : Int32) (n62 : Int32) (n63 : Int64) (va : Int64) (vb : Int64) (vc : Int64) (n : Nat) (f : Nat → Int32) (hn : n ≤ 1000) (F : Nat) (G : Nat → Int32) (hF : kad vc 8 (kad vb 8 (kad va 2 n)) = F) (hG : kfa vc 8 (kad vb 8 (kad va 2 n)) (kfa vb 8 (kad va 2 n) (kfa va 2 n f)) = G) (hC : kC γ p s m [.ref z, .long va, .long vb, .long vc].toArray c cX12_feed 11 RX12 A) (hr : meth.sig.returnType = (some .int)) (hlocks : meth.locks = false) (H : Heap) (locs : List Loc) (hw : kW γ A [(z, .inr (11, [.int 0, .int (nI n), .ref z2, .int n3, .int n4, .int n5, .int n6, .long n7, .int n8, .int n9, .ref z10, .ref z11, .ref z12, .ref z13, .ref z14, .ref z15, .ref z16, .ref z17, .ref z18, .ref z19, .int n20, .int n21, .ref z22, .ref z23, .ref z24, .ref z25, .ref z26, .ref z27, .ref z28, .ref z29, .ref z30, .ref z31, .ref z32, .ref z33, .int n34, .long n35, .ref z36, .ref z37, .ref z38, .ref z39, .ref z40, .ref z41, .ref z42, .ref z43, .ref z44, .ref z45, .ref z46, .ref z47, .ref z48, .int n49, .int n50, .int n51, .int n52, .int n53, .int n54, .ref z55, .ref z56, .int n57, .int n58, .ref z59, .ref z60, .ref z61, .int n62, .long n63])), (z2, .inl (γ.2.1 0, 1000, .inl f))] s H locs) (ls : Array Slot) (hl : lv_has ls 11 [(7, .int 6), (0, .ref z), (1, .long va), (3, .long vb), (5, .long vc)]) : W p l e ({ frames := 0, cells := 0, slots := 0, locals := 0 } : Room) s m [.ref z, .long va, .long vb, .long vc].toArray below meth c H locs 0 0 (MQ below (kQ γ A (fun r w1 => r = some (.int (nI F)) ∧ w1 = [(z, .inr (11, [.int 0, .int (nI F), .ref z2, .int n3, .int n4, .int n5, .int n6, .long n7, .int n8, .int n9, .ref z10, .ref z11, .ref z12, .ref z13, .ref z14, .ref z15, .ref z16, .ref z17, .ref z18, .ref z19, .int n20, .int n21, .ref z22, .ref z23, .ref z24, .ref z25, .ref z26, .ref z27, .ref z28, .ref z29, .ref z30, .ref z31, .ref z32, .ref z33, .int n34, .long n35, .ref z36, .ref z37, .ref z38, .ref z39, .ref z40, .ref z41, .ref z42, .ref z43, .ref z44, .ref z45, .ref z46, .ref z47, .ref z48, .int n49, .int n50, .int n51, .int n52, .int n53, .int n54, .ref z55, .ref z56, .int n57, .int n58, .ref z59, .ref z60, .ref z61, .int n62, .long n63])), (z2, .inl (γ.2.1 0, 1000, .inl G))])) [.ref z, .long va, .long vb, .long vc].toArray s 0 0 A) (F0 m 8 ls []) := by
  have hx := hC.1
  have hb := hC.2.1
  refine lv_iload hx hb dX12_feed_8 (lv_at hl 0 rfl) ?_
  refine lv_bipush (v := 24) hx hb dX12_feed_10 (by decide) ?_
  refine lv_icmp_ge (tgt := 120) hx hb dX12_feed_12 (by decide) (fun h => absurd h (by decide)) (fun _ => ?_)
  refine lv_iload hx hb dX12_feed_15 (lv_at hl 0 rfl) ?_
  refine lv_bipush (v := 8) hx hb dX12_feed_17 (by decide) ?_
  refine lv_icmp_ge (tgt := 26) hx hb dX12_feed_19 (by decide) (fun h => absurd h (by decide)) (fun _ => ?_)
  refine lv_lload_n hx hb dX12_feed_22 rfl (lv_at hl 2 rfl) ?_
  refine lv_goto (tgt := 39) hx hb dX12_feed_23 (by decide) ?_
  refine lv_lstore (lv' := [(8, .long va), (7, .int 6), (0, .ref z), (1, .long va), (3, .long vb), (5, .long vc)]) hx hb dX12_feed_39 hl (by decide) rfl (fun ls hl => ?_)
  refine lv_lload hx hb dX12_feed_41 (lv_at hl 0 rfl) ?_
  refine lv_bipush (v := 56) hx hb dX12_feed_43 (by decide) ?_
  refine lv_bipush (v := 8) hx hb dX12_feed_45 (by decide) ?_
  refine lv_iload hx hb dX12_feed_47 (lv_at hl 1 rfl) ?_
  refine lv_bipush (v := 7) hx hb dX12_feed_49 (by decide) ?_
  refine lv_iand hx hb dX12_feed_51 ?_
  refine lv_topi (fun x_243 ex_243 => ?_)
  obtain rfl : x_243 = 6 := ex_243.trans (by decide)
  refine lv_imul hx hb dX12_feed_52 ?_
  refine lv_topi (fun x_244 ex_244 => ?_)
  obtain rfl : x_244 = 48 := ex_244.trans (by decide)
  refine lv_isub hx hb dX12_feed_53 ?_
  refine lv_topi (fun x_245 ex_245 => ?_)
  obtain rfl : x_245 = 8 := ex_245.trans (by decide)
  refine lv_lushr hx hb dX12_feed_54 rfl ?_
  refine lv_topl (fun x_246 ex_246 => ?_)
  refine k_ldc2 hC gw_1389 dX12_feed_55 ?_
  refine lv_land hx hb dX12_feed_58 ?_
  refine lv_topl (fun x_247 ex_247 => ?_)
  refine lv_l2i hx hb dX12_feed_59 rfl ?_
  refine lv_topi (fun x_248 ex_248 => ?_)
  refine lv_istore (lv' := [(10, .int x_248), (8, .long va), (7, .int 6), (0, .ref z), (1, .long va), (3, .long vb), (5, .long vc)]) hx hb dX12_feed_60 hl (by decide) rfl (fun ls hl => ?_)
  have hk : x_248 = kby va 8 := by rw [ex_248, ex_247, k_land, ex_246]; rfl
  refine lv_aload_n hx hb dX12_feed_62 rfl (lv_at hl 3 rfl) ?_
  refine fg_RX12_148 hC hw 0 rfl rfl dX12_feed_63 ?_
  refine lv_sipush (v := 1000) hx hb dX12_feed_66 (by decide) ?_
  refine lv_icmp_ge (tgt := 114) hx hb dX12_feed_69 (by decide) (fun c69 => ?_) (fun c69 => ?_)
  · have hfull : ¬ n < 1000 := fun h9 => absurd c69 (nI_ge h9 (by decide))
    refine lv_iinc (v := 7) (lv' := [(7, .int 7), (10, .int x_248), (8, .long va), (0, .ref z), (1, .long va), (3, .long vb), (5, .long vc)]) hx hb dX12_feed_114 hl (k := 2) rfl (by decide) (by decide) rfl (fun ls hl => ?_)
    refine lv_goto (tgt := 8) hx hb dX12_feed_117 (by decide) ?_
    have hst : kst n (kby va 8) = n := by rw [← hk]; exact (by first | exact kst_full hfull | exact kst_a c76 hlt | exact kst_b c83 c90 hlt | exact kst_lo c76 c83 | exact kst_hi c76 c90)
    have hup : kup f n (kby va 8) = f := by rw [← hk]; exact (by first | exact kup_full hfull | exact kup_lo c76 c83 | exact kup_hi c76 c90)
    exact mf_7 z z2 z10 z11 z12 z13 z14 z15 z16 z17 z18 z19 z22 z23 z24 z25 z26 z27 z28 z29 z30 z31 z32 z33 z36 z37 z38 z39 z40 z41 z42 z43 z44 z45 z46 z47 z48 z55 z56 z59 z60 z61 n3 n4 n5 n6 n7 n8 n9 n20 n21 n34 n35 n49 n50 n51 n52 n53 n54 n57 n58 n62 n63 va vb vc n f (by omega) F G (by have h9 : kad vc 8 (kad vb 8 (kad va 1 (kst n (kby va 8)))) = F := hF; rw [hst] at h9; exact h9) (by have h9 : kfa vc 8 (kad vb 8 (kad va 1 (kst n (kby va 8)))) (kfa vb 8 (kad va 1 (kst n (kby va 8))) (kfa va 1 (kst n (kby va 8)) (kup f n (kby va 8)))) = G := hG; rw [hst, hup] at h9; exact h9) hC hr hlocks _ _ (kW.sub hw [0, 1] rfl rfl) _ (lv_sub hl [0, 3, 4, 5, 6] rfl)
  · have hlt : n < 1000 := by rcases Nat.lt_or_ge n 1000 with h9 | h9; exact h9; exact absurd (nI_le h9 (by omega)) c69
    refine lv_iload hx hb dX12_feed_72 (lv_at hl 0 rfl) ?_
    refine lv_bipush (v := 10) hx hb dX12_feed_74 (by decide) ?_
    refine lv_icmp_eq (tgt := 93) hx hb dX12_feed_76 (by decide) (fun c76 => ?_) (fun c76 => ?_)
    · refine lv_aload_n hx hb dX12_feed_93 rfl (lv_at hl 3 rfl) ?_
      refine fg_RX12_7 hC hw 0 rfl rfl dX12_feed_94 ?_
      refine lv_aload_n hx hb dX12_feed_97 rfl (lv_at hl 3 rfl) ?_
      refine fg_RX12_148 hC hw 0 rfl rfl dX12_feed_98 ?_
      refine lv_iload hx hb dX12_feed_101 (lv_at hl 0 rfl) ?_
      refine k_iast hC hw 1 rfl (vp_in_nI hlt (by decide)) dX12_feed_103 (fun H locs hw => ?_)
      obtain ⟨f_249, ef_249⟩ : ∃ g, g = upd f ((nI n) : Int32).toNatClampNeg x_248 := ⟨_, rfl⟩
      have hw : kW γ A [(z, .inr (11, [.int 0, .int (nI n), .ref z2, .int n3, .int n4, .int n5, .int n6, .long n7, .int n8, .int n9, .ref z10, .ref z11, .ref z12, .ref z13, .ref z14, .ref z15, .ref z16, .ref z17, .ref z18, .ref z19, .int n20, .int n21, .ref z22, .ref z23, .ref z24, .ref z25, .ref z26, .ref z27, .ref z28, .ref z29, .ref z30, .ref z31, .ref z32, .ref z33, .int n34, .long n35, .ref z36, .ref z37, .ref z38, .ref z39, .ref z40, .ref z41, .ref z42, .ref z43, .ref z44, .ref z45, .ref z46, .ref z47, .ref z48, .int n49, .int n50, .int n51, .int n52, .int n53, .int n54, .ref z55, .ref z56, .int n57, .int n58, .ref z59, .ref z60, .ref z61, .int n62, .long n63])), (z2, .inl (γ.2.1 0, 1000, .inl f_249))] s H locs := by rw [ef_249]; exact hw
      refine lv_aload_n hx hb dX12_feed_104 rfl (lv_at hl 3 rfl) ?_
      refine lv_dup hx hb dX12_feed_105 rfl ?_
      refine fg_RX12_148 hC hw 0 rfl rfl dX12_feed_106 ?_
      refine lv_iconst (v := 1) hx hb dX12_feed_109 (by decide) ?_
      refine lv_iadd hx hb dX12_feed_110 ?_
      refine lv_topi (fun x_250 ex_250 => ?_)
      obtain rfl : x_250 = (nI (n + 1)) := ex_250.trans (nI_1 n)
      refine fs_RX12_148 hC hw 0 rfl rfl rfl (Nat.le_of_ble_eq_true rfl) dX12_feed_111 (fun H locs hw => ?_)
      have hw : kW γ A [(z, .inr (11, [.int 0, .int (nI (n + 1)), .ref z2, .int n3, .int n4, .int n5, .int n6, .long n7, .int n8, .int n9, .ref z10, .ref z11, .ref z12, .ref z13, .ref z14, .ref z15, .ref z16, .ref z17, .ref z18, .ref z19, .int n20, .int n21, .ref z22, .ref z23, .ref z24, .ref z25, .ref z26, .ref z27, .ref z28, .ref z29, .ref z30, .ref z31, .ref z32, .ref z33, .int n34, .long n35, .ref z36, .ref z37, .ref z38, .ref z39, .ref z40, .ref z41, .ref z42, .ref z43, .ref z44, .ref z45, .ref z46, .ref z47, .ref z48, .int n49, .int n50, .int n51, .int n52, .int n53, .int n54, .ref z55, .ref z56, .int n57, .int n58, .ref z59, .ref z60, .ref z61, .int n62, .long n63])), (z2, .inl (γ.2.1 0, 1000, .inl f_249))] s H locs := hw
      refine lv_iinc (v := 7) (lv' := [(7, .int 7), (10, .int x_248), (8, .long va), (0, .ref z), (1, .long va), (3, .long vb), (5, .long vc)]) hx hb dX12_feed_114 hl (k := 2) rfl (by decide) (by decide) rfl (fun ls hl => ?_)
      refine lv_goto (tgt := 8) hx hb dX12_feed_117 (by decide) ?_
      have hst : kst n (kby va 8) = (n + 1) := by rw [← hk]; exact (by first | exact kst_full hfull | exact kst_a c76 hlt | exact kst_b c83 c90 hlt | exact kst_lo c76 c83 | exact kst_hi c76 c90)
      have hup : kup f n (kby va 8) = f_249 := by rw [← hk, ef_249, nI_clamp (by omega)]; exact kup_y (by first | exact kok_a c76 | exact kok_b c83 c90) hlt
      exact mf_7 z z2 z10 z11 z12 z13 z14 z15 z16 z17 z18 z19 z22 z23 z24 z25 z26 z27 z28 z29 z30 z31 z32 z33 z36 z37 z38 z39 z40 z41 z42 z43 z44 z45 z46 z47 z48 z55 z56 z59 z60 z61 n3 n4 n5 n6 n7 n8 n9 n20 n21 n34 n35 n49 n50 n51 n52 n53 n54 n57 n58 n62 n63 va vb vc (n + 1) f_249 (by omega) F G (by have h9 : kad vc 8 (kad vb 8 (kad va 1 (kst n (kby va 8)))) = F := hF; rw [hst] at h9; exact h9) (by have h9 : kfa vc 8 (kad vb 8 (kad va 1 (kst n (kby va 8)))) (kfa vb 8 (kad va 1 (kst n (kby va 8))) (kfa va 1 (kst n (kby va 8)) (kup f n (kby va 8)))) = G := hG; rw [hst, hup] at h9; exact h9) hC hr hlocks _ _ (kW.sub hw [0, 1] rfl rfl) _ (lv_sub hl [0, 3, 4, 5, 6] rfl)
    · refine lv_iload hx hb dX12_feed_79 (lv_at hl 0 rfl) ?_
      refine lv_bipush (v := 32) hx hb dX12_feed_81 (by decide) ?_
      refine lv_icmp_lt (tgt := 114) hx hb dX12_feed_83 (by decide) (fun c83 => ?_) (fun c83 => ?_)
      · refine lv_iinc (v := 7) (lv' := [(7, .int 7), (10, .int x_248), (8, .long va), (0, .ref z), (1, .long va), (3, .long vb), (5, .long vc)]) hx hb dX12_feed_114 hl (k := 2) rfl (by decide) (by decide) rfl (fun ls hl => ?_)
        refine lv_goto (tgt := 8) hx hb dX12_feed_117 (by decide) ?_
        have hst : kst n (kby va 8) = n := by rw [← hk]; exact (by first | exact kst_full hfull | exact kst_a c76 hlt | exact kst_b c83 c90 hlt | exact kst_lo c76 c83 | exact kst_hi c76 c90)
        have hup : kup f n (kby va 8) = f := by rw [← hk]; exact (by first | exact kup_full hfull | exact kup_lo c76 c83 | exact kup_hi c76 c90)
        exact mf_7 z z2 z10 z11 z12 z13 z14 z15 z16 z17 z18 z19 z22 z23 z24 z25 z26 z27 z28 z29 z30 z31 z32 z33 z36 z37 z38 z39 z40 z41 z42 z43 z44 z45 z46 z47 z48 z55 z56 z59 z60 z61 n3 n4 n5 n6 n7 n8 n9 n20 n21 n34 n35 n49 n50 n51 n52 n53 n54 n57 n58 n62 n63 va vb vc n f (by omega) F G (by have h9 : kad vc 8 (kad vb 8 (kad va 1 (kst n (kby va 8)))) = F := hF; rw [hst] at h9; exact h9) (by have h9 : kfa vc 8 (kad vb 8 (kad va 1 (kst n (kby va 8)))) (kfa vb 8 (kad va 1 (kst n (kby va 8))) (kfa va 1 (kst n (kby va 8)) (kup f n (kby va 8)))) = G := hG; rw [hst, hup] at h9; exact h9) hC hr hlocks _ _ (kW.sub hw [0, 1] rfl rfl) _ (lv_sub hl [0, 3, 4, 5, 6] rfl)
      · refine lv_iload hx hb dX12_feed_86 (lv_at hl 0 rfl) ?_
        refine lv_bipush (v := 126) hx hb dX12_feed_88 (by decide) ?_
        refine lv_icmp_gt (tgt := 114) hx hb dX12_feed_90 (by decide) (fun c90 => ?_) (fun c90 => ?_)
        · refine lv_iinc (v := 7) (lv' := [(7, .int 7), (10, .int x_248), (8, .long va), (0, .ref z), (1, .long va), (3, .long vb), (5, .long vc)]) hx hb dX12_feed_114 hl (k := 2) rfl (by decide) (by decide) rfl (fun ls hl => ?_)
          refine lv_goto (tgt := 8) hx hb dX12_feed_117 (by decide) ?_
          have hst : kst n (kby va 8) = n := by rw [← hk]; exact (by first | exact kst_full hfull | exact kst_a c76 hlt | exact kst_b c83 c90 hlt | exact kst_lo c76 c83 | exact kst_hi c76 c90)
          have hup : kup f n (kby va 8) = f := by rw [← hk]; exact (by first | exact kup_full hfull | exact kup_lo c76 c83 | exact kup_hi c76 c90)
          exact mf_7 z z2 z10 z11 z12 z13 z14 z15 z16 z17 z18 z19 z22 z23 z24 z25 z26 z27 z28 z29 z30 z31 z32 z33 z36 z37 z38 z39 z40 z41 z42 z43 z44 z45 z46 z47 z48 z55 z56 z59 z60 z61 n3 n4 n5 n6 n7 n8 n9 n20 n21 n34 n35 n49 n50 n51 n52 n53 n54 n57 n58 n62 n63 va vb vc n f (by omega) F G (by have h9 : kad vc 8 (kad vb 8 (kad va 1 (kst n (kby va 8)))) = F := hF; rw [hst] at h9; exact h9) (by have h9 : kfa vc 8 (kad vb 8 (kad va 1 (kst n (kby va 8)))) (kfa vb 8 (kad va 1 (kst n (kby va 8))) (kfa va 1 (kst n (kby va 8)) (kup f n (kby va 8)))) = G := hG; rw [hst, hup] at h9; exact h9) hC hr hlocks _ _ (kW.sub hw [0, 1] rfl rfl) _ (lv_sub hl [0, 3, 4, 5, 6] rfl)
        · refine lv_aload_n hx hb dX12_feed_93 rfl (lv_at hl 3 rfl) ?_
          refine fg_RX12_7 hC hw 0 rfl rfl dX12_feed_94 ?_
          refine lv_aload_n hx hb dX12_feed_97 rfl (lv_at hl 3 rfl) ?_
          refine fg_RX12_148 hC hw 0 rfl rfl dX12_feed_98 ?_
          refine lv_iload hx hb dX12_feed_101 (lv_at hl 0 rfl) ?_
          refine k_iast hC hw 1 rfl (vp_in_nI hlt (by decide)) dX12_feed_103 (fun H locs hw => ?_)
          obtain ⟨f_251, ef_251⟩ : ∃ g, g = upd f ((nI n) : Int32).toNatClampNeg x_248 := ⟨_, rfl⟩
          have hw : kW γ A [(z, .inr (11, [.int 0, .int (nI n), .ref z2, .int n3, .int n4, .int n5, .int n6, .long n7, .int n8, .int n9, .ref z10, .ref z11, .ref z12, .ref z13, .ref z14, .ref z15, .ref z16, .ref z17, .ref z18, .ref z19, .int n20, .int n21, .ref z22, .ref z23, .ref z24, .ref z25, .ref z26, .ref z27, .ref z28, .ref z29, .ref z30, .ref z31, .ref z32, .ref z33, .int n34, .long n35, .ref z36, .ref z37, .ref z38, .ref z39, .ref z40, .ref z41, .ref z42, .ref z43, .ref z44, .ref z45, .ref z46, .ref z47, .ref z48, .int n49, .int n50, .int n51, .int n52, .int n53, .int n54, .ref z55, .ref z56, .int n57, .int n58, .ref z59, .ref z60, .ref z61, .int n62, .long n63])), (z2, .inl (γ.2.1 0, 1000, .inl f_251))] s H locs := by rw [ef_251]; exact hw
          refine lv_aload_n hx hb dX12_feed_104 rfl (lv_at hl 3 rfl) ?_
          refine lv_dup hx hb dX12_feed_105 rfl ?_
          refine fg_RX12_148 hC hw 0 rfl rfl dX12_feed_106 ?_
          refine lv_iconst (v := 1) hx hb dX12_feed_109 (by decide) ?_
          refine lv_iadd hx hb dX12_feed_110 ?_
          refine lv_topi (fun x_252 ex_252 => ?_)
          obtain rfl : x_252 = (nI (n + 1)) := ex_252.trans (nI_1 n)
          refine fs_RX12_148 hC hw 0 rfl rfl rfl (Nat.le_of_ble_eq_true rfl) dX12_feed_111 (fun H locs hw => ?_)
          have hw : kW γ A [(z, .inr (11, [.int 0, .int (nI (n + 1)), .ref z2, .int n3, .int n4, .int n5, .int n6, .long n7, .int n8, .int n9, .ref z10, .ref z11, .ref z12, .ref z13, .ref z14, .ref z15, .ref z16, .ref z17, .ref z18, .ref z19, .int n20, .int n21, .ref z22, .ref z23, .ref z24, .ref z25, .ref z26, .ref z27, .ref z28, .ref z29, .ref z30, .ref z31, .ref z32, .ref z33, .int n34, .long n35, .ref z36, .ref z37, .ref z38, .ref z39, .ref z40, .ref z41, .ref z42, .ref z43, .ref z44, .ref z45, .ref z46, .ref z47, .ref z48, .int n49, .int n50, .int n51, .int n52, .int n53, .int n54, .ref z55, .ref z56, .int n57, .int n58, .ref z59, .ref z60, .ref z61, .int n62, .long n63])), (z2, .inl (γ.2.1 0, 1000, .inl f_251))] s H locs := hw
          refine lv_iinc (v := 7) (lv' := [(7, .int 7), (10, .int x_248), (8, .long va), (0, .ref z), (1, .long va), (3, .long vb), (5, .long vc)]) hx hb dX12_feed_114 hl (k := 2) rfl (by decide) (by decide) rfl (fun ls hl => ?_)
          refine lv_goto (tgt := 8) hx hb dX12_feed_117 (by decide) ?_
          have hst : kst n (kby va 8) = (n + 1) := by rw [← hk]; exact (by first | exact kst_full hfull | exact kst_a c76 hlt | exact kst_b c83 c90 hlt | exact kst_lo c76 c83 | exact kst_hi c76 c90)
          have hup : kup f n (kby va 8) = f_251 := by rw [← hk, ef_251, nI_clamp (by omega)]; exact kup_y (by first | exact kok_a c76 | exact kok_b c83 c90) hlt
          exact mf_7 z z2 z10 z11 z12 z13 z14 z15 z16 z17 z18 z19 z22 z23 z24 z25 z26 z27 z28 z29 z30 z31 z32 z33 z36 z37 z38 z39 z40 z41 z42 z43 z44 z45 z46 z47 z48 z55 z56 z59 z60 z61 n3 n4 n5 n6 n7 n8 n9 n20 n21 n34 n35 n49 n50 n51 n52 n53 n54 n57 n58 n62 n63 va vb vc (n + 1) f_251 (by omega) F G (by have h9 : kad vc 8 (kad vb 8 (kad va 1 (kst n (kby va 8)))) = F := hF; rw [hst] at h9; exact h9) (by have h9 : kfa vc 8 (kad vb 8 (kad va 1 (kst n (kby va 8)))) (kfa vb 8 (kad va 1 (kst n (kby va 8))) (kfa va 1 (kst n (kby va 8)) (kup f n (kby va 8)))) = G := hG; rw [hst, hup] at h9; exact h9) hC hr hlocks _ _ (kW.sub hw [0, 1] rfl rfl) _ (lv_sub hl [0, 3, 4, 5, 6] rfl)

set_option maxHeartbeats 4000000 in
set_option maxRecDepth 100000 in
theorem mf_5 {γ : kΓ} {l : Launch} {p : Program} {e : Env} {s : State} {m : MethodId} {below : List Frame} {meth : Method} {c : Code} {A : Nat → Prop} (z : Nat) (z2 : Nat) (z10 : Nat) (z11 : Nat) (z12 : Nat) (z13 : Nat) (z14 : Nat) (z15 : Nat) (z16 : Nat) (z17 : Nat) (z18 : Nat) (z19 : Nat) (z22 : Nat) (z23 : Nat) (z24 : Nat) (z25 : Nat) (z26 : Nat) (z27 : Nat) (z28 : Nat) (z29 : Nat) (z30 : Nat) (z31 : Nat) (z32 : Nat) (z33 : Nat) (z36 : Nat) (z37 : Nat) (z38 : Nat) (z39 : Nat) (z40 : Nat) (z41 : Nat) (z42 : Nat) (z43 : Nat) (z44 : Nat) (z45 : Nat) (z46 : Nat) (z47 : Nat) (z48 : Nat) (z55 : Nat) (z56 : Nat) (z59 : Nat) (z60 : Nat) (z61 : Nat) (n3 : Int32) (n4 : Int32) (n5 : Int32) (n6 : Int32) (n7 : Int64) (n8 : Int32) (n9 : Int32) (n20 : Int32) (n21 : Int32) (n34 : Int32) (n35 : Int64) (n49 : Int32) (n50 : Int32) (n51 : Int32) (n52 : Int32) (n53 : Int32) (n54 : Int32) (n57 : Int32) (n58 : Int32) (n62 : Int32) (n63 : Int64) (va : Int64) (vb : Int64) (vc : Int64) (n : Nat) (f : Nat → Int32) (hn : n ≤ 1000) (F : Nat) (G : Nat → Int32) (hF : kad vc 8 (kad vb 8 (kad va 3 n)) = F) (hG : kfa vc 8 (kad vb 8 (kad va 3 n)) (kfa vb 8 (kad va 3 n) (kfa va 3 n f)) = G) (hC : kC γ p s m [.ref z, .long va, .long vb, .long vc].toArray c cX12_feed 11 RX12 A) (hr : meth.sig.returnType = (some .int)) (hlocks : meth.locks = false) (H : Heap) (locs : List Loc) (hw : kW γ A [(z, .inr (11, [.int 0, .int (nI n), .ref z2, .int n3, .int n4, .int n5, .int n6, .long n7, .int n8, .int n9, .ref z10, .ref z11, .ref z12, .ref z13, .ref z14, .ref z15, .ref z16, .ref z17, .ref z18, .ref z19, .int n20, .int n21, .ref z22, .ref z23, .ref z24, .ref z25, .ref z26, .ref z27, .ref z28, .ref z29, .ref z30, .ref z31, .ref z32, .ref z33, .int n34, .long n35, .ref z36, .ref z37, .ref z38, .ref z39, .ref z40, .ref z41, .ref z42, .ref z43, .ref z44, .ref z45, .ref z46, .ref z47, .ref z48, .int n49, .int n50, .int n51, .int n52, .int n53, .int n54, .ref z55, .ref z56, .int n57, .int n58, .ref z59, .ref z60, .ref z61, .int n62, .long n63])), (z2, .inl (γ.2.1 0, 1000, .inl f))] s H locs) (ls : Array Slot) (hl : lv_has ls 11 [(7, .int 5), (0, .ref z), (1, .long va), (3, .long vb), (5, .long vc)]) : W p l e ({ frames := 0, cells := 0, slots := 0, locals := 0 } : Room) s m [.ref z, .long va, .long vb, .long vc].toArray below meth c H locs 0 0 (MQ below (kQ γ A (fun r w1 => r = some (.int (nI F)) ∧ w1 = [(z, .inr (11, [.int 0, .int (nI F), .ref z2, .int n3, .int n4, .int n5, .int n6, .long n7, .int n8, .int n9, .ref z10, .ref z11, .ref z12, .ref z13, .ref z14, .ref z15, .ref z16, .ref z17, .ref z18, .ref z19, .int n20, .int n21, .ref z22, .ref z23, .ref z24, .ref z25, .ref z26, .ref z27, .ref z28, .ref z29, .ref z30, .ref z31, .ref z32, .ref z33, .int n34, .long n35, .ref z36, .ref z37, .ref z38, .ref z39, .ref z40, .ref z41, .ref z42, .ref z43, .ref z44, .ref z45, .ref z46, .ref z47, .ref z48, .int n49, .int n50, .int n51, .int n52, .int n53, .int n54, .ref z55, .ref z56, .int n57, .int n58, .ref z59, .ref z60, .ref z61, .int n62, .long n63])), (z2, .inl (γ.2.1 0, 1000, .inl G))])) [.ref z, .long va, .long vb, .long vc].toArray s 0 0 A) (F0 m 8 ls []) := by
  have hx := hC.1
  have hb := hC.2.1
  refine lv_iload hx hb dX12_feed_8 (lv_at hl 0 rfl) ?_
  refine lv_bipush (v := 24) hx hb dX12_feed_10 (by decide) ?_
  refine lv_icmp_ge (tgt := 120) hx hb dX12_feed_12 (by decide) (fun h => absurd h (by decide)) (fun _ => ?_)
  refine lv_iload hx hb dX12_feed_15 (lv_at hl 0 rfl) ?_
  refine lv_bipush (v := 8) hx hb dX12_feed_17 (by decide) ?_
  refine lv_icmp_ge (tgt := 26) hx hb dX12_feed_19 (by decide) (fun h => absurd h (by decide)) (fun _ => ?_)
  refine lv_lload_n hx hb dX12_feed_22 rfl (lv_at hl 2 rfl) ?_
  refine lv_goto (tgt := 39) hx hb dX12_feed_23 (by decide) ?_
  refine lv_lstore (lv' := [(8, .long va), (7, .int 5), (0, .ref z), (1, .long va), (3, .long vb), (5, .long vc)]) hx hb dX12_feed_39 hl (by decide) rfl (fun ls hl => ?_)
  refine lv_lload hx hb dX12_feed_41 (lv_at hl 0 rfl) ?_
  refine lv_bipush (v := 56) hx hb dX12_feed_43 (by decide) ?_
  refine lv_bipush (v := 8) hx hb dX12_feed_45 (by decide) ?_
  refine lv_iload hx hb dX12_feed_47 (lv_at hl 1 rfl) ?_
  refine lv_bipush (v := 7) hx hb dX12_feed_49 (by decide) ?_
  refine lv_iand hx hb dX12_feed_51 ?_
  refine lv_topi (fun x_253 ex_253 => ?_)
  obtain rfl : x_253 = 5 := ex_253.trans (by decide)
  refine lv_imul hx hb dX12_feed_52 ?_
  refine lv_topi (fun x_254 ex_254 => ?_)
  obtain rfl : x_254 = 40 := ex_254.trans (by decide)
  refine lv_isub hx hb dX12_feed_53 ?_
  refine lv_topi (fun x_255 ex_255 => ?_)
  obtain rfl : x_255 = 16 := ex_255.trans (by decide)
  refine lv_lushr hx hb dX12_feed_54 rfl ?_
  refine lv_topl (fun x_256 ex_256 => ?_)
  refine k_ldc2 hC gw_1389 dX12_feed_55 ?_
  refine lv_land hx hb dX12_feed_58 ?_
  refine lv_topl (fun x_257 ex_257 => ?_)
  refine lv_l2i hx hb dX12_feed_59 rfl ?_
  refine lv_topi (fun x_258 ex_258 => ?_)
  refine lv_istore (lv' := [(10, .int x_258), (8, .long va), (7, .int 5), (0, .ref z), (1, .long va), (3, .long vb), (5, .long vc)]) hx hb dX12_feed_60 hl (by decide) rfl (fun ls hl => ?_)
  have hk : x_258 = kby va 16 := by rw [ex_258, ex_257, k_land, ex_256]; rfl
  refine lv_aload_n hx hb dX12_feed_62 rfl (lv_at hl 3 rfl) ?_
  refine fg_RX12_148 hC hw 0 rfl rfl dX12_feed_63 ?_
  refine lv_sipush (v := 1000) hx hb dX12_feed_66 (by decide) ?_
  refine lv_icmp_ge (tgt := 114) hx hb dX12_feed_69 (by decide) (fun c69 => ?_) (fun c69 => ?_)
  · have hfull : ¬ n < 1000 := fun h9 => absurd c69 (nI_ge h9 (by decide))
    refine lv_iinc (v := 6) (lv' := [(7, .int 6), (10, .int x_258), (8, .long va), (0, .ref z), (1, .long va), (3, .long vb), (5, .long vc)]) hx hb dX12_feed_114 hl (k := 2) rfl (by decide) (by decide) rfl (fun ls hl => ?_)
    refine lv_goto (tgt := 8) hx hb dX12_feed_117 (by decide) ?_
    have hst : kst n (kby va 16) = n := by rw [← hk]; exact (by first | exact kst_full hfull | exact kst_a c76 hlt | exact kst_b c83 c90 hlt | exact kst_lo c76 c83 | exact kst_hi c76 c90)
    have hup : kup f n (kby va 16) = f := by rw [← hk]; exact (by first | exact kup_full hfull | exact kup_lo c76 c83 | exact kup_hi c76 c90)
    exact mf_6 z z2 z10 z11 z12 z13 z14 z15 z16 z17 z18 z19 z22 z23 z24 z25 z26 z27 z28 z29 z30 z31 z32 z33 z36 z37 z38 z39 z40 z41 z42 z43 z44 z45 z46 z47 z48 z55 z56 z59 z60 z61 n3 n4 n5 n6 n7 n8 n9 n20 n21 n34 n35 n49 n50 n51 n52 n53 n54 n57 n58 n62 n63 va vb vc n f (by omega) F G (by have h9 : kad vc 8 (kad vb 8 (kad va 2 (kst n (kby va 16)))) = F := hF; rw [hst] at h9; exact h9) (by have h9 : kfa vc 8 (kad vb 8 (kad va 2 (kst n (kby va 16)))) (kfa vb 8 (kad va 2 (kst n (kby va 16))) (kfa va 2 (kst n (kby va 16)) (kup f n (kby va 16)))) = G := hG; rw [hst, hup] at h9; exact h9) hC hr hlocks _ _ (kW.sub hw [0, 1] rfl rfl) _ (lv_sub hl [0, 3, 4, 5, 6] rfl)
  · have hlt : n < 1000 := by rcases Nat.lt_or_ge n 1000 with h9 | h9; exact h9; exact absurd (nI_le h9 (by omega)) c69
    refine lv_iload hx hb dX12_feed_72 (lv_at hl 0 rfl) ?_
    refine lv_bipush (v := 10) hx hb dX12_feed_74 (by decide) ?_
    refine lv_icmp_eq (tgt := 93) hx hb dX12_feed_76 (by decide) (fun c76 => ?_) (fun c76 => ?_)
    · refine lv_aload_n hx hb dX12_feed_93 rfl (lv_at hl 3 rfl) ?_
      refine fg_RX12_7 hC hw 0 rfl rfl dX12_feed_94 ?_
      refine lv_aload_n hx hb dX12_feed_97 rfl (lv_at hl 3 rfl) ?_
      refine fg_RX12_148 hC hw 0 rfl rfl dX12_feed_98 ?_
      refine lv_iload hx hb dX12_feed_101 (lv_at hl 0 rfl) ?_
      refine k_iast hC hw 1 rfl (vp_in_nI hlt (by decide)) dX12_feed_103 (fun H locs hw => ?_)
      obtain ⟨f_259, ef_259⟩ : ∃ g, g = upd f ((nI n) : Int32).toNatClampNeg x_258 := ⟨_, rfl⟩
      have hw : kW γ A [(z, .inr (11, [.int 0, .int (nI n), .ref z2, .int n3, .int n4, .int n5, .int n6, .long n7, .int n8, .int n9, .ref z10, .ref z11, .ref z12, .ref z13, .ref z14, .ref z15, .ref z16, .ref z17, .ref z18, .ref z19, .int n20, .int n21, .ref z22, .ref z23, .ref z24, .ref z25, .ref z26, .ref z27, .ref z28, .ref z29, .ref z30, .ref z31, .ref z32, .ref z33, .int n34, .long n35, .ref z36, .ref z37, .ref z38, .ref z39, .ref z40, .ref z41, .ref z42, .ref z43, .ref z44, .ref z45, .ref z46, .ref z47, .ref z48, .int n49, .int n50, .int n51, .int n52, .int n53, .int n54, .ref z55, .ref z56, .int n57, .int n58, .ref z59, .ref z60, .ref z61, .int n62, .long n63])), (z2, .inl (γ.2.1 0, 1000, .inl f_259))] s H locs := by rw [ef_259]; exact hw
      refine lv_aload_n hx hb dX12_feed_104 rfl (lv_at hl 3 rfl) ?_
      refine lv_dup hx hb dX12_feed_105 rfl ?_
      refine fg_RX12_148 hC hw 0 rfl rfl dX12_feed_106 ?_
      refine lv_iconst (v := 1) hx hb dX12_feed_109 (by decide) ?_
      refine lv_iadd hx hb dX12_feed_110 ?_
      refine lv_topi (fun x_260 ex_260 => ?_)
      obtain rfl : x_260 = (nI (n + 1)) := ex_260.trans (nI_1 n)
      refine fs_RX12_148 hC hw 0 rfl rfl rfl (Nat.le_of_ble_eq_true rfl) dX12_feed_111 (fun H locs hw => ?_)
      have hw : kW γ A [(z, .inr (11, [.int 0, .int (nI (n + 1)), .ref z2, .int n3, .int n4, .int n5, .int n6, .long n7, .int n8, .int n9, .ref z10, .ref z11, .ref z12, .ref z13, .ref z14, .ref z15, .ref z16, .ref z17, .ref z18, .ref z19, .int n20, .int n21, .ref z22, .ref z23, .ref z24, .ref z25, .ref z26, .ref z27, .ref z28, .ref z29, .ref z30, .ref z31, .ref z32, .ref z33, .int n34, .long n35, .ref z36, .ref z37, .ref z38, .ref z39, .ref z40, .ref z41, .ref z42, .ref z43, .ref z44, .ref z45, .ref z46, .ref z47, .ref z48, .int n49, .int n50, .int n51, .int n52, .int n53, .int n54, .ref z55, .ref z56, .int n57, .int n58, .ref z59, .ref z60, .ref z61, .int n62, .long n63])), (z2, .inl (γ.2.1 0, 1000, .inl f_259))] s H locs := hw
      refine lv_iinc (v := 6) (lv' := [(7, .int 6), (10, .int x_258), (8, .long va), (0, .ref z), (1, .long va), (3, .long vb), (5, .long vc)]) hx hb dX12_feed_114 hl (k := 2) rfl (by decide) (by decide) rfl (fun ls hl => ?_)
      refine lv_goto (tgt := 8) hx hb dX12_feed_117 (by decide) ?_
      have hst : kst n (kby va 16) = (n + 1) := by rw [← hk]; exact (by first | exact kst_full hfull | exact kst_a c76 hlt | exact kst_b c83 c90 hlt | exact kst_lo c76 c83 | exact kst_hi c76 c90)
      have hup : kup f n (kby va 16) = f_259 := by rw [← hk, ef_259, nI_clamp (by omega)]; exact kup_y (by first | exact kok_a c76 | exact kok_b c83 c90) hlt
      exact mf_6 z z2 z10 z11 z12 z13 z14 z15 z16 z17 z18 z19 z22 z23 z24 z25 z26 z27 z28 z29 z30 z31 z32 z33 z36 z37 z38 z39 z40 z41 z42 z43 z44 z45 z46 z47 z48 z55 z56 z59 z60 z61 n3 n4 n5 n6 n7 n8 n9 n20 n21 n34 n35 n49 n50 n51 n52 n53 n54 n57 n58 n62 n63 va vb vc (n + 1) f_259 (by omega) F G (by have h9 : kad vc 8 (kad vb 8 (kad va 2 (kst n (kby va 16)))) = F := hF; rw [hst] at h9; exact h9) (by have h9 : kfa vc 8 (kad vb 8 (kad va 2 (kst n (kby va 16)))) (kfa vb 8 (kad va 2 (kst n (kby va 16))) (kfa va 2 (kst n (kby va 16)) (kup f n (kby va 16)))) = G := hG; rw [hst, hup] at h9; exact h9) hC hr hlocks _ _ (kW.sub hw [0, 1] rfl rfl) _ (lv_sub hl [0, 3, 4, 5, 6] rfl)
    · refine lv_iload hx hb dX12_feed_79 (lv_at hl 0 rfl) ?_
      refine lv_bipush (v := 32) hx hb dX12_feed_81 (by decide) ?_
      refine lv_icmp_lt (tgt := 114) hx hb dX12_feed_83 (by decide) (fun c83 => ?_) (fun c83 => ?_)
      · refine lv_iinc (v := 6) (lv' := [(7, .int 6), (10, .int x_258), (8, .long va), (0, .ref z), (1, .long va), (3, .long vb), (5, .long vc)]) hx hb dX12_feed_114 hl (k := 2) rfl (by decide) (by decide) rfl (fun ls hl => ?_)
        refine lv_goto (tgt := 8) hx hb dX12_feed_117 (by decide) ?_
        have hst : kst n (kby va 16) = n := by rw [← hk]; exact (by first | exact kst_full hfull | exact kst_a c76 hlt | exact kst_b c83 c90 hlt | exact kst_lo c76 c83 | exact kst_hi c76 c90)
        have hup : kup f n (kby va 16) = f := by rw [← hk]; exact (by first | exact kup_full hfull | exact kup_lo c76 c83 | exact kup_hi c76 c90)
        exact mf_6 z z2 z10 z11 z12 z13 z14 z15 z16 z17 z18 z19 z22 z23 z24 z25 z26 z27 z28 z29 z30 z31 z32 z33 z36 z37 z38 z39 z40 z41 z42 z43 z44 z45 z46 z47 z48 z55 z56 z59 z60 z61 n3 n4 n5 n6 n7 n8 n9 n20 n21 n34 n35 n49 n50 n51 n52 n53 n54 n57 n58 n62 n63 va vb vc n f (by omega) F G (by have h9 : kad vc 8 (kad vb 8 (kad va 2 (kst n (kby va 16)))) = F := hF; rw [hst] at h9; exact h9) (by have h9 : kfa vc 8 (kad vb 8 (kad va 2 (kst n (kby va 16)))) (kfa vb 8 (kad va 2 (kst n (kby va 16))) (kfa va 2 (kst n (kby va 16)) (kup f n (kby va 16)))) = G := hG; rw [hst, hup] at h9; exact h9) hC hr hlocks _ _ (kW.sub hw [0, 1] rfl rfl) _ (lv_sub hl [0, 3, 4, 5, 6] rfl)
      · refine lv_iload hx hb dX12_feed_86 (lv_at hl 0 rfl) ?_
        refine lv_bipush (v := 126) hx hb dX12_feed_88 (by decide) ?_
        refine lv_icmp_gt (tgt := 114) hx hb dX12_feed_90 (by decide) (fun c90 => ?_) (fun c90 => ?_)
        · refine lv_iinc (v := 6) (lv' := [(7, .int 6), (10, .int x_258), (8, .long va), (0, .ref z), (1, .long va), (3, .long vb), (5, .long vc)]) hx hb dX12_feed_114 hl (k := 2) rfl (by decide) (by decide) rfl (fun ls hl => ?_)
          refine lv_goto (tgt := 8) hx hb dX12_feed_117 (by decide) ?_
          have hst : kst n (kby va 16) = n := by rw [← hk]; exact (by first | exact kst_full hfull | exact kst_a c76 hlt | exact kst_b c83 c90 hlt | exact kst_lo c76 c83 | exact kst_hi c76 c90)
          have hup : kup f n (kby va 16) = f := by rw [← hk]; exact (by first | exact kup_full hfull | exact kup_lo c76 c83 | exact kup_hi c76 c90)
          exact mf_6 z z2 z10 z11 z12 z13 z14 z15 z16 z17 z18 z19 z22 z23 z24 z25 z26 z27 z28 z29 z30 z31 z32 z33 z36 z37 z38 z39 z40 z41 z42 z43 z44 z45 z46 z47 z48 z55 z56 z59 z60 z61 n3 n4 n5 n6 n7 n8 n9 n20 n21 n34 n35 n49 n50 n51 n52 n53 n54 n57 n58 n62 n63 va vb vc n f (by omega) F G (by have h9 : kad vc 8 (kad vb 8 (kad va 2 (kst n (kby va 16)))) = F := hF; rw [hst] at h9; exact h9) (by have h9 : kfa vc 8 (kad vb 8 (kad va 2 (kst n (kby va 16)))) (kfa vb 8 (kad va 2 (kst n (kby va 16))) (kfa va 2 (kst n (kby va 16)) (kup f n (kby va 16)))) = G := hG; rw [hst, hup] at h9; exact h9) hC hr hlocks _ _ (kW.sub hw [0, 1] rfl rfl) _ (lv_sub hl [0, 3, 4, 5, 6] rfl)
        · refine lv_aload_n hx hb dX12_feed_93 rfl (lv_at hl 3 rfl) ?_
          refine fg_RX12_7 hC hw 0 rfl rfl dX12_feed_94 ?_
          refine lv_aload_n hx hb dX12_feed_97 rfl (lv_at hl 3 rfl) ?_
          refine fg_RX12_148 hC hw 0 rfl rfl dX12_feed_98 ?_
          refine lv_iload hx hb dX12_feed_101 (lv_at hl 0 rfl) ?_
          refine k_iast hC hw 1 rfl (vp_in_nI hlt (by decide)) dX12_feed_103 (fun H locs hw => ?_)
          obtain ⟨f_261, ef_261⟩ : ∃ g, g = upd f ((nI n) : Int32).toNatClampNeg x_258 := ⟨_, rfl⟩
          have hw : kW γ A [(z, .inr (11, [.int 0, .int (nI n), .ref z2, .int n3, .int n4, .int n5, .int n6, .long n7, .int n8, .int n9, .ref z10, .ref z11, .ref z12, .ref z13, .ref z14, .ref z15, .ref z16, .ref z17, .ref z18, .ref z19, .int n20, .int n21, .ref z22, .ref z23, .ref z24, .ref z25, .ref z26, .ref z27, .ref z28, .ref z29, .ref z30, .ref z31, .ref z32, .ref z33, .int n34, .long n35, .ref z36, .ref z37, .ref z38, .ref z39, .ref z40, .ref z41, .ref z42, .ref z43, .ref z44, .ref z45, .ref z46, .ref z47, .ref z48, .int n49, .int n50, .int n51, .int n52, .int n53, .int n54, .ref z55, .ref z56, .int n57, .int n58, .ref z59, .ref z60, .ref z61, .int n62, .long n63])), (z2, .inl (γ.2.1 0, 1000, .inl f_261))] s H locs := by rw [ef_261]; exact hw
          refine lv_aload_n hx hb dX12_feed_104 rfl (lv_at hl 3 rfl) ?_
          refine lv_dup hx hb dX12_feed_105 rfl ?_
          refine fg_RX12_148 hC hw 0 rfl rfl dX12_feed_106 ?_
          refine lv_iconst (v := 1) hx hb dX12_feed_109 (by decide) ?_
          refine lv_iadd hx hb dX12_feed_110 ?_
          refine lv_topi (fun x_262 ex_262 => ?_)
          obtain rfl : x_262 = (nI (n + 1)) := ex_262.trans (nI_1 n)
          refine fs_RX12_148 hC hw 0 rfl rfl rfl (Nat.le_of_ble_eq_true rfl) dX12_feed_111 (fun H locs hw => ?_)
          have hw : kW γ A [(z, .inr (11, [.int 0, .int (nI (n + 1)), .ref z2, .int n3, .int n4, .int n5, .int n6, .long n7, .int n8, .int n9, .ref z10, .ref z11, .ref z12, .ref z13, .ref z14, .ref z15, .ref z16, .ref z17, .ref z18, .ref z19, .int n20, .int n21, .ref z22, .ref z23, .ref z24, .ref z25, .ref z26, .ref z27, .ref z28, .ref z29, .ref z30, .ref z31, .ref z32, .ref z33, .int n34, .long n35, .ref z36, .ref z37, .ref z38, .ref z39, .ref z40, .ref z41, .ref z42, .ref z43, .ref z44, .ref z45, .ref z46, .ref z47, .ref z48, .int n49, .int n50, .int n51, .int n52, .int n53, .int n54, .ref z55, .ref z56, .int n57, .int n58, .ref z59, .ref z60, .ref z61, .int n62, .long n63])), (z2, .inl (γ.2.1 0, 1000, .inl f_261))] s H locs := hw
          refine lv_iinc (v := 6) (lv' := [(7, .int 6), (10, .int x_258), (8, .long va), (0, .ref z), (1, .long va), (3, .long vb), (5, .long vc)]) hx hb dX12_feed_114 hl (k := 2) rfl (by decide) (by decide) rfl (fun ls hl => ?_)
          refine lv_goto (tgt := 8) hx hb dX12_feed_117 (by decide) ?_
          have hst : kst n (kby va 16) = (n + 1) := by rw [← hk]; exact (by first | exact kst_full hfull | exact kst_a c76 hlt | exact kst_b c83 c90 hlt | exact kst_lo c76 c83 | exact kst_hi c76 c90)
          have hup : kup f n (kby va 16) = f_261 := by rw [← hk, ef_261, nI_clamp (by omega)]; exact kup_y (by first | exact kok_a c76 | exact kok_b c83 c90) hlt
          exact mf_6 z z2 z10 z11 z12 z13 z14 z15 z16 z17 z18 z19 z22 z23 z24 z25 z26 z27 z28 z29 z30 z31 z32 z33 z36 z37 z38 z39 z40 z41 z42 z43 z44 z45 z46 z47 z48 z55 z56 z59 z60 z61 n3 n4 n5 n6 n7 n8 n9 n20 n21 n34 n35 n49 n50 n51 n52 n53 n54 n57 n58 n62 n63 va vb vc (n + 1) f_261 (by omega) F G (by have h9 : kad vc 8 (kad vb 8 (kad va 2 (kst n (kby va 16)))) = F := hF; rw [hst] at h9; exact h9) (by have h9 : kfa vc 8 (kad vb 8 (kad va 2 (kst n (kby va 16)))) (kfa vb 8 (kad va 2 (kst n (kby va 16))) (kfa va 2 (kst n (kby va 16)) (kup f n (kby va 16)))) = G := hG; rw [hst, hup] at h9; exact h9) hC hr hlocks _ _ (kW.sub hw [0, 1] rfl rfl) _ (lv_sub hl [0, 3, 4, 5, 6] rfl)

set_option maxHeartbeats 4000000 in
set_option maxRecDepth 100000 in
theorem mf_4 {γ : kΓ} {l : Launch} {p : Program} {e : Env} {s : State} {m : MethodId} {below : List Frame} {meth : Method} {c : Code} {A : Nat → Prop} (z : Nat) (z2 : Nat) (z10 : Nat) (z11 : Nat) (z12 : Nat) (z13 : Nat) (z14 : Nat) (z15 : Nat) (z16 : Nat) (z17 : Nat) (z18 : Nat) (z19 : Nat) (z22 : Nat) (z23 : Nat) (z24 : Nat) (z25 : Nat) (z26 : Nat) (z27 : Nat) (z28 : Nat) (z29 : Nat) (z30 : Nat) (z31 : Nat) (z32 : Nat) (z33 : Nat) (z36 : Nat) (z37 : Nat) (z38 : Nat) (z39 : Nat) (z40 : Nat) (z41 : Nat) (z42 : Nat) (z43 : Nat) (z44 : Nat) (z45 : Nat) (z46 : Nat) (z47 : Nat) (z48 : Nat) (z55 : Nat) (z56 : Nat) (z59 : Nat) (z60 : Nat) (z61 : Nat) (n3 : Int32) (n4 : Int32) (n5 : Int32) (n6 : Int32) (n7 : Int64) (n8 : Int32) (n9 : Int32) (n20 : Int32) (n21 : Int32) (n34 : Int32) (n35 : Int64) (n49 : Int32) (n50 : Int32) (n51 : Int32) (n52 : Int32) (n53 : Int32) (n54 : Int32) (n57 : Int32) (n58 : Int32) (n62 : Int32) (n63 : Int64) (va : Int64) (vb : Int64) (vc : Int64) (n : Nat) (f : Nat → Int32) (hn : n ≤ 1000) (F : Nat) (G : Nat → Int32) (hF : kad vc 8 (kad vb 8 (kad va 4 n)) = F) (hG : kfa vc 8 (kad vb 8 (kad va 4 n)) (kfa vb 8 (kad va 4 n) (kfa va 4 n f)) = G) (hC : kC γ p s m [.ref z, .long va, .long vb, .long vc].toArray c cX12_feed 11 RX12 A) (hr : meth.sig.returnType = (some .int)) (hlocks : meth.locks = false) (H : Heap) (locs : List Loc) (hw : kW γ A [(z, .inr (11, [.int 0, .int (nI n), .ref z2, .int n3, .int n4, .int n5, .int n6, .long n7, .int n8, .int n9, .ref z10, .ref z11, .ref z12, .ref z13, .ref z14, .ref z15, .ref z16, .ref z17, .ref z18, .ref z19, .int n20, .int n21, .ref z22, .ref z23, .ref z24, .ref z25, .ref z26, .ref z27, .ref z28, .ref z29, .ref z30, .ref z31, .ref z32, .ref z33, .int n34, .long n35, .ref z36, .ref z37, .ref z38, .ref z39, .ref z40, .ref z41, .ref z42, .ref z43, .ref z44, .ref z45, .ref z46, .ref z47, .ref z48, .int n49, .int n50, .int n51, .int n52, .int n53, .int n54, .ref z55, .ref z56, .int n57, .int n58, .ref z59, .ref z60, .ref z61, .int n62, .long n63])), (z2, .inl (γ.2.1 0, 1000, .inl f))] s H locs) (ls : Array Slot) (hl : lv_has ls 11 [(7, .int 4), (0, .ref z), (1, .long va), (3, .long vb), (5, .long vc)]) : W p l e ({ frames := 0, cells := 0, slots := 0, locals := 0 } : Room) s m [.ref z, .long va, .long vb, .long vc].toArray below meth c H locs 0 0 (MQ below (kQ γ A (fun r w1 => r = some (.int (nI F)) ∧ w1 = [(z, .inr (11, [.int 0, .int (nI F), .ref z2, .int n3, .int n4, .int n5, .int n6, .long n7, .int n8, .int n9, .ref z10, .ref z11, .ref z12, .ref z13, .ref z14, .ref z15, .ref z16, .ref z17, .ref z18, .ref z19, .int n20, .int n21, .ref z22, .ref z23, .ref z24, .ref z25, .ref z26, .ref z27, .ref z28, .ref z29, .ref z30, .ref z31, .ref z32, .ref z33, .int n34, .long n35, .ref z36, .ref z37, .ref z38, .ref z39, .ref z40, .ref z41, .ref z42, .ref z43, .ref z44, .ref z45, .ref z46, .ref z47, .ref z48, .int n49, .int n50, .int n51, .int n52, .int n53, .int n54, .ref z55, .ref z56, .int n57, .int n58, .ref z59, .ref z60, .ref z61, .int n62, .long n63])), (z2, .inl (γ.2.1 0, 1000, .inl G))])) [.ref z, .long va, .long vb, .long vc].toArray s 0 0 A) (F0 m 8 ls []) := by
  have hx := hC.1
  have hb := hC.2.1
  refine lv_iload hx hb dX12_feed_8 (lv_at hl 0 rfl) ?_
  refine lv_bipush (v := 24) hx hb dX12_feed_10 (by decide) ?_
  refine lv_icmp_ge (tgt := 120) hx hb dX12_feed_12 (by decide) (fun h => absurd h (by decide)) (fun _ => ?_)
  refine lv_iload hx hb dX12_feed_15 (lv_at hl 0 rfl) ?_
  refine lv_bipush (v := 8) hx hb dX12_feed_17 (by decide) ?_
  refine lv_icmp_ge (tgt := 26) hx hb dX12_feed_19 (by decide) (fun h => absurd h (by decide)) (fun _ => ?_)
  refine lv_lload_n hx hb dX12_feed_22 rfl (lv_at hl 2 rfl) ?_
  refine lv_goto (tgt := 39) hx hb dX12_feed_23 (by decide) ?_
  refine lv_lstore (lv' := [(8, .long va), (7, .int 4), (0, .ref z), (1, .long va), (3, .long vb), (5, .long vc)]) hx hb dX12_feed_39 hl (by decide) rfl (fun ls hl => ?_)
  refine lv_lload hx hb dX12_feed_41 (lv_at hl 0 rfl) ?_
  refine lv_bipush (v := 56) hx hb dX12_feed_43 (by decide) ?_
  refine lv_bipush (v := 8) hx hb dX12_feed_45 (by decide) ?_
  refine lv_iload hx hb dX12_feed_47 (lv_at hl 1 rfl) ?_
  refine lv_bipush (v := 7) hx hb dX12_feed_49 (by decide) ?_
  refine lv_iand hx hb dX12_feed_51 ?_
  refine lv_topi (fun x_263 ex_263 => ?_)
  obtain rfl : x_263 = 4 := ex_263.trans (by decide)
  refine lv_imul hx hb dX12_feed_52 ?_
  refine lv_topi (fun x_264 ex_264 => ?_)
  obtain rfl : x_264 = 32 := ex_264.trans (by decide)
  refine lv_isub hx hb dX12_feed_53 ?_
  refine lv_topi (fun x_265 ex_265 => ?_)
  obtain rfl : x_265 = 24 := ex_265.trans (by decide)
  refine lv_lushr hx hb dX12_feed_54 rfl ?_
  refine lv_topl (fun x_266 ex_266 => ?_)
  refine k_ldc2 hC gw_1389 dX12_feed_55 ?_
  refine lv_land hx hb dX12_feed_58 ?_
  refine lv_topl (fun x_267 ex_267 => ?_)
  refine lv_l2i hx hb dX12_feed_59 rfl ?_
  refine lv_topi (fun x_268 ex_268 => ?_)
  refine lv_istore (lv' := [(10, .int x_268), (8, .long va), (7, .int 4), (0, .ref z), (1, .long va), (3, .long vb), (5, .long vc)]) hx hb dX12_feed_60 hl (by decide) rfl (fun ls hl => ?_)
  have hk : x_268 = kby va 24 := by rw [ex_268, ex_267, k_land, ex_266]; rfl
  refine lv_aload_n hx hb dX12_feed_62 rfl (lv_at hl 3 rfl) ?_
  refine fg_RX12_148 hC hw 0 rfl rfl dX12_feed_63 ?_
  refine lv_sipush (v := 1000) hx hb dX12_feed_66 (by decide) ?_
  refine lv_icmp_ge (tgt := 114) hx hb dX12_feed_69 (by decide) (fun c69 => ?_) (fun c69 => ?_)
  · have hfull : ¬ n < 1000 := fun h9 => absurd c69 (nI_ge h9 (by decide))
    refine lv_iinc (v := 5) (lv' := [(7, .int 5), (10, .int x_268), (8, .long va), (0, .ref z), (1, .long va), (3, .long vb), (5, .long vc)]) hx hb dX12_feed_114 hl (k := 2) rfl (by decide) (by decide) rfl (fun ls hl => ?_)
    refine lv_goto (tgt := 8) hx hb dX12_feed_117 (by decide) ?_
    have hst : kst n (kby va 24) = n := by rw [← hk]; exact (by first | exact kst_full hfull | exact kst_a c76 hlt | exact kst_b c83 c90 hlt | exact kst_lo c76 c83 | exact kst_hi c76 c90)
    have hup : kup f n (kby va 24) = f := by rw [← hk]; exact (by first | exact kup_full hfull | exact kup_lo c76 c83 | exact kup_hi c76 c90)
    exact mf_5 z z2 z10 z11 z12 z13 z14 z15 z16 z17 z18 z19 z22 z23 z24 z25 z26 z27 z28 z29 z30 z31 z32 z33 z36 z37 z38 z39 z40 z41 z42 z43 z44 z45 z46 z47 z48 z55 z56 z59 z60 z61 n3 n4 n5 n6 n7 n8 n9 n20 n21 n34 n35 n49 n50 n51 n52 n53 n54 n57 n58 n62 n63 va vb vc n f (by omega) F G (by have h9 : kad vc 8 (kad vb 8 (kad va 3 (kst n (kby va 24)))) = F := hF; rw [hst] at h9; exact h9) (by have h9 : kfa vc 8 (kad vb 8 (kad va 3 (kst n (kby va 24)))) (kfa vb 8 (kad va 3 (kst n (kby va 24))) (kfa va 3 (kst n (kby va 24)) (kup f n (kby va 24)))) = G := hG; rw [hst, hup] at h9; exact h9) hC hr hlocks _ _ (kW.sub hw [0, 1] rfl rfl) _ (lv_sub hl [0, 3, 4, 5, 6] rfl)
  · have hlt : n < 1000 := by rcases Nat.lt_or_ge n 1000 with h9 | h9; exact h9; exact absurd (nI_le h9 (by omega)) c69
    refine lv_iload hx hb dX12_feed_72 (lv_at hl 0 rfl) ?_
    refine lv_bipush (v := 10) hx hb dX12_feed_74 (by decide) ?_
    refine lv_icmp_eq (tgt := 93) hx hb dX12_feed_76 (by decide) (fun c76 => ?_) (fun c76 => ?_)
    · refine lv_aload_n hx hb dX12_feed_93 rfl (lv_at hl 3 rfl) ?_
      refine fg_RX12_7 hC hw 0 rfl rfl dX12_feed_94 ?_
      refine lv_aload_n hx hb dX12_feed_97 rfl (lv_at hl 3 rfl) ?_
      refine fg_RX12_148 hC hw 0 rfl rfl dX12_feed_98 ?_
      refine lv_iload hx hb dX12_feed_101 (lv_at hl 0 rfl) ?_
      refine k_iast hC hw 1 rfl (vp_in_nI hlt (by decide)) dX12_feed_103 (fun H locs hw => ?_)
      obtain ⟨f_269, ef_269⟩ : ∃ g, g = upd f ((nI n) : Int32).toNatClampNeg x_268 := ⟨_, rfl⟩
      have hw : kW γ A [(z, .inr (11, [.int 0, .int (nI n), .ref z2, .int n3, .int n4, .int n5, .int n6, .long n7, .int n8, .int n9, .ref z10, .ref z11, .ref z12, .ref z13, .ref z14, .ref z15, .ref z16, .ref z17, .ref z18, .ref z19, .int n20, .int n21, .ref z22, .ref z23, .ref z24, .ref z25, .ref z26, .ref z27, .ref z28, .ref z29, .ref z30, .ref z31, .ref z32, .ref z33, .int n34, .long n35, .ref z36, .ref z37, .ref z38, .ref z39, .ref z40, .ref z41, .ref z42, .ref z43, .ref z44, .ref z45, .ref z46, .ref z47, .ref z48, .int n49, .int n50, .int n51, .int n52, .int n53, .int n54, .ref z55, .ref z56, .int n57, .int n58, .ref z59, .ref z60, .ref z61, .int n62, .long n63])), (z2, .inl (γ.2.1 0, 1000, .inl f_269))] s H locs := by rw [ef_269]; exact hw
      refine lv_aload_n hx hb dX12_feed_104 rfl (lv_at hl 3 rfl) ?_
      refine lv_dup hx hb dX12_feed_105 rfl ?_
      refine fg_RX12_148 hC hw 0 rfl rfl dX12_feed_106 ?_
      refine lv_iconst (v := 1) hx hb dX12_feed_109 (by decide) ?_
      refine lv_iadd hx hb dX12_feed_110 ?_
      refine lv_topi (fun x_270 ex_270 => ?_)
      obtain rfl : x_270 = (nI (n + 1)) := ex_270.trans (nI_1 n)
      refine fs_RX12_148 hC hw 0 rfl rfl rfl (Nat.le_of_ble_eq_true rfl) dX12_feed_111 (fun H locs hw => ?_)
      have hw : kW γ A [(z, .inr (11, [.int 0, .int (nI (n + 1)), .ref z2, .int n3, .int n4, .int n5, .int n6, .long n7, .int n8, .int n9, .ref z10, .ref z11, .ref z12, .ref z13, .ref z14, .ref z15, .ref z16, .ref z17, .ref z18, .ref z19, .int n20, .int n21, .ref z22, .ref z23, .ref z24, .ref z25, .ref z26, .ref z27, .ref z28, .ref z29, .ref z30, .ref z31, .ref z32, .ref z33, .int n34, .long n35, .ref z36, .ref z37, .ref z38, .ref z39, .ref z40, .ref z41, .ref z42, .ref z43, .ref z44, .ref z45, .ref z46, .ref z47, .ref z48, .int n49, .int n50, .int n51, .int n52, .int n53, .int n54, .ref z55, .ref z56, .int n57, .int n58, .ref z59, .ref z60, .ref z61, .int n62, .long n63])), (z2, .inl (γ.2.1 0, 1000, .inl f_269))] s H locs := hw
      refine lv_iinc (v := 5) (lv' := [(7, .int 5), (10, .int x_268), (8, .long va), (0, .ref z), (1, .long va), (3, .long vb), (5, .long vc)]) hx hb dX12_feed_114 hl (k := 2) rfl (by decide) (by decide) rfl (fun ls hl => ?_)
      refine lv_goto (tgt := 8) hx hb dX12_feed_117 (by decide) ?_
      have hst : kst n (kby va 24) = (n + 1) := by rw [← hk]; exact (by first | exact kst_full hfull | exact kst_a c76 hlt | exact kst_b c83 c90 hlt | exact kst_lo c76 c83 | exact kst_hi c76 c90)
      have hup : kup f n (kby va 24) = f_269 := by rw [← hk, ef_269, nI_clamp (by omega)]; exact kup_y (by first | exact kok_a c76 | exact kok_b c83 c90) hlt
      exact mf_5 z z2 z10 z11 z12 z13 z14 z15 z16 z17 z18 z19 z22 z23 z24 z25 z26 z27 z28 z29 z30 z31 z32 z33 z36 z37 z38 z39 z40 z41 z42 z43 z44 z45 z46 z47 z48 z55 z56 z59 z60 z61 n3 n4 n5 n6 n7 n8 n9 n20 n21 n34 n35 n49 n50 n51 n52 n53 n54 n57 n58 n62 n63 va vb vc (n + 1) f_269 (by omega) F G (by have h9 : kad vc 8 (kad vb 8 (kad va 3 (kst n (kby va 24)))) = F := hF; rw [hst] at h9; exact h9) (by have h9 : kfa vc 8 (kad vb 8 (kad va 3 (kst n (kby va 24)))) (kfa vb 8 (kad va 3 (kst n (kby va 24))) (kfa va 3 (kst n (kby va 24)) (kup f n (kby va 24)))) = G := hG; rw [hst, hup] at h9; exact h9) hC hr hlocks _ _ (kW.sub hw [0, 1] rfl rfl) _ (lv_sub hl [0, 3, 4, 5, 6] rfl)
    · refine lv_iload hx hb dX12_feed_79 (lv_at hl 0 rfl) ?_
      refine lv_bipush (v := 32) hx hb dX12_feed_81 (by decide) ?_
      refine lv_icmp_lt (tgt := 114) hx hb dX12_feed_83 (by decide) (fun c83 => ?_) (fun c83 => ?_)
      · refine lv_iinc (v := 5) (lv' := [(7, .int 5), (10, .int x_268), (8, .long va), (0, .ref z), (1, .long va), (3, .long vb), (5, .long vc)]) hx hb dX12_feed_114 hl (k := 2) rfl (by decide) (by decide) rfl (fun ls hl => ?_)
        refine lv_goto (tgt := 8) hx hb dX12_feed_117 (by decide) ?_
        have hst : kst n (kby va 24) = n := by rw [← hk]; exact (by first | exact kst_full hfull | exact kst_a c76 hlt | exact kst_b c83 c90 hlt | exact kst_lo c76 c83 | exact kst_hi c76 c90)
        have hup : kup f n (kby va 24) = f := by rw [← hk]; exact (by first | exact kup_full hfull | exact kup_lo c76 c83 | exact kup_hi c76 c90)
        exact mf_5 z z2 z10 z11 z12 z13 z14 z15 z16 z17 z18 z19 z22 z23 z24 z25 z26 z27 z28 z29 z30 z31 z32 z33 z36 z37 z38 z39 z40 z41 z42 z43 z44 z45 z46 z47 z48 z55 z56 z59 z60 z61 n3 n4 n5 n6 n7 n8 n9 n20 n21 n34 n35 n49 n50 n51 n52 n53 n54 n57 n58 n62 n63 va vb vc n f (by omega) F G (by have h9 : kad vc 8 (kad vb 8 (kad va 3 (kst n (kby va 24)))) = F := hF; rw [hst] at h9; exact h9) (by have h9 : kfa vc 8 (kad vb 8 (kad va 3 (kst n (kby va 24)))) (kfa vb 8 (kad va 3 (kst n (kby va 24))) (kfa va 3 (kst n (kby va 24)) (kup f n (kby va 24)))) = G := hG; rw [hst, hup] at h9; exact h9) hC hr hlocks _ _ (kW.sub hw [0, 1] rfl rfl) _ (lv_sub hl [0, 3, 4, 5, 6] rfl)
      · refine lv_iload hx hb dX12_feed_86 (lv_at hl 0 rfl) ?_
        refine lv_bipush (v := 126) hx hb dX12_feed_88 (by decide) ?_
        refine lv_icmp_gt (tgt := 114) hx hb dX12_feed_90 (by decide) (fun c90 => ?_) (fun c90 => ?_)
        · refine lv_iinc (v := 5) (lv' := [(7, .int 5), (10, .int x_268), (8, .long va), (0, .ref z), (1, .long va), (3, .long vb), (5, .long vc)]) hx hb dX12_feed_114 hl (k := 2) rfl (by decide) (by decide) rfl (fun ls hl => ?_)
          refine lv_goto (tgt := 8) hx hb dX12_feed_117 (by decide) ?_
          have hst : kst n (kby va 24) = n := by rw [← hk]; exact (by first | exact kst_full hfull | exact kst_a c76 hlt | exact kst_b c83 c90 hlt | exact kst_lo c76 c83 | exact kst_hi c76 c90)
          have hup : kup f n (kby va 24) = f := by rw [← hk]; exact (by first | exact kup_full hfull | exact kup_lo c76 c83 | exact kup_hi c76 c90)
          exact mf_5 z z2 z10 z11 z12 z13 z14 z15 z16 z17 z18 z19 z22 z23 z24 z25 z26 z27 z28 z29 z30 z31 z32 z33 z36 z37 z38 z39 z40 z41 z42 z43 z44 z45 z46 z47 z48 z55 z56 z59 z60 z61 n3 n4 n5 n6 n7 n8 n9 n20 n21 n34 n35 n49 n50 n51 n52 n53 n54 n57 n58 n62 n63 va vb vc n f (by omega) F G (by have h9 : kad vc 8 (kad vb 8 (kad va 3 (kst n (kby va 24)))) = F := hF; rw [hst] at h9; exact h9) (by have h9 : kfa vc 8 (kad vb 8 (kad va 3 (kst n (kby va 24)))) (kfa vb 8 (kad va 3 (kst n (kby va 24))) (kfa va 3 (kst n (kby va 24)) (kup f n (kby va 24)))) = G := hG; rw [hst, hup] at h9; exact h9) hC hr hlocks _ _ (kW.sub hw [0, 1] rfl rfl) _ (lv_sub hl [0, 3, 4, 5, 6] rfl)
        · refine lv_aload_n hx hb dX12_feed_93 rfl (lv_at hl 3 rfl) ?_
          refine fg_RX12_7 hC hw 0 rfl rfl dX12_feed_94 ?_
          refine lv_aload_n hx hb dX12_feed_97 rfl (lv_at hl 3 rfl) ?_
          refine fg_RX12_148 hC hw 0 rfl rfl dX12_feed_98 ?_
          refine lv_iload hx hb dX12_feed_101 (lv_at hl 0 rfl) ?_
          refine k_iast hC hw 1 rfl (vp_in_nI hlt (by decide)) dX12_feed_103 (fun H locs hw => ?_)
          obtain ⟨f_271, ef_271⟩ : ∃ g, g = upd f ((nI n) : Int32).toNatClampNeg x_268 := ⟨_, rfl⟩
          have hw : kW γ A [(z, .inr (11, [.int 0, .int (nI n), .ref z2, .int n3, .int n4, .int n5, .int n6, .long n7, .int n8, .int n9, .ref z10, .ref z11, .ref z12, .ref z13, .ref z14, .ref z15, .ref z16, .ref z17, .ref z18, .ref z19, .int n20, .int n21, .ref z22, .ref z23, .ref z24, .ref z25, .ref z26, .ref z27, .ref z28, .ref z29, .ref z30, .ref z31, .ref z32, .ref z33, .int n34, .long n35, .ref z36, .ref z37, .ref z38, .ref z39, .ref z40, .ref z41, .ref z42, .ref z43, .ref z44, .ref z45, .ref z46, .ref z47, .ref z48, .int n49, .int n50, .int n51, .int n52, .int n53, .int n54, .ref z55, .ref z56, .int n57, .int n58, .ref z59, .ref z60, .ref z61, .int n62, .long n63])), (z2, .inl (γ.2.1 0, 1000, .inl f_271))] s H locs := by rw [ef_271]; exact hw
          refine lv_aload_n hx hb dX12_feed_104 rfl (lv_at hl 3 rfl) ?_
          refine lv_dup hx hb dX12_feed_105 rfl ?_
          refine fg_RX12_148 hC hw 0 rfl rfl dX12_feed_106 ?_
          refine lv_iconst (v := 1) hx hb dX12_feed_109 (by decide) ?_
          refine lv_iadd hx hb dX12_feed_110 ?_
          refine lv_topi (fun x_272 ex_272 => ?_)
          obtain rfl : x_272 = (nI (n + 1)) := ex_272.trans (nI_1 n)
          refine fs_RX12_148 hC hw 0 rfl rfl rfl (Nat.le_of_ble_eq_true rfl) dX12_feed_111 (fun H locs hw => ?_)
          have hw : kW γ A [(z, .inr (11, [.int 0, .int (nI (n + 1)), .ref z2, .int n3, .int n4, .int n5, .int n6, .long n7, .int n8, .int n9, .ref z10, .ref z11, .ref z12, .ref z13, .ref z14, .ref z15, .ref z16, .ref z17, .ref z18, .ref z19, .int n20, .int n21, .ref z22, .ref z23, .ref z24, .ref z25, .ref z26, .ref z27, .ref z28, .ref z29, .ref z30, .ref z31, .ref z32, .ref z33, .int n34, .long n35, .ref z36, .ref z37, .ref z38, .ref z39, .ref z40, .ref z41, .ref z42, .ref z43, .ref z44, .ref z45, .ref z46, .ref z47, .ref z48, .int n49, .int n50, .int n51, .int n52, .int n53, .int n54, .ref z55, .ref z56, .int n57, .int n58, .ref z59, .ref z60, .ref z61, .int n62, .long n63])), (z2, .inl (γ.2.1 0, 1000, .inl f_271))] s H locs := hw
          refine lv_iinc (v := 5) (lv' := [(7, .int 5), (10, .int x_268), (8, .long va), (0, .ref z), (1, .long va), (3, .long vb), (5, .long vc)]) hx hb dX12_feed_114 hl (k := 2) rfl (by decide) (by decide) rfl (fun ls hl => ?_)
          refine lv_goto (tgt := 8) hx hb dX12_feed_117 (by decide) ?_
          have hst : kst n (kby va 24) = (n + 1) := by rw [← hk]; exact (by first | exact kst_full hfull | exact kst_a c76 hlt | exact kst_b c83 c90 hlt | exact kst_lo c76 c83 | exact kst_hi c76 c90)
          have hup : kup f n (kby va 24) = f_271 := by rw [← hk, ef_271, nI_clamp (by omega)]; exact kup_y (by first | exact kok_a c76 | exact kok_b c83 c90) hlt
          exact mf_5 z z2 z10 z11 z12 z13 z14 z15 z16 z17 z18 z19 z22 z23 z24 z25 z26 z27 z28 z29 z30 z31 z32 z33 z36 z37 z38 z39 z40 z41 z42 z43 z44 z45 z46 z47 z48 z55 z56 z59 z60 z61 n3 n4 n5 n6 n7 n8 n9 n20 n21 n34 n35 n49 n50 n51 n52 n53 n54 n57 n58 n62 n63 va vb vc (n + 1) f_271 (by omega) F G (by have h9 : kad vc 8 (kad vb 8 (kad va 3 (kst n (kby va 24)))) = F := hF; rw [hst] at h9; exact h9) (by have h9 : kfa vc 8 (kad vb 8 (kad va 3 (kst n (kby va 24)))) (kfa vb 8 (kad va 3 (kst n (kby va 24))) (kfa va 3 (kst n (kby va 24)) (kup f n (kby va 24)))) = G := hG; rw [hst, hup] at h9; exact h9) hC hr hlocks _ _ (kW.sub hw [0, 1] rfl rfl) _ (lv_sub hl [0, 3, 4, 5, 6] rfl)

set_option maxHeartbeats 4000000 in
set_option maxRecDepth 100000 in
theorem mf_3 {γ : kΓ} {l : Launch} {p : Program} {e : Env} {s : State} {m : MethodId} {below : List Frame} {meth : Method} {c : Code} {A : Nat → Prop} (z : Nat) (z2 : Nat) (z10 : Nat) (z11 : Nat) (z12 : Nat) (z13 : Nat) (z14 : Nat) (z15 : Nat) (z16 : Nat) (z17 : Nat) (z18 : Nat) (z19 : Nat) (z22 : Nat) (z23 : Nat) (z24 : Nat) (z25 : Nat) (z26 : Nat) (z27 : Nat) (z28 : Nat) (z29 : Nat) (z30 : Nat) (z31 : Nat) (z32 : Nat) (z33 : Nat) (z36 : Nat) (z37 : Nat) (z38 : Nat) (z39 : Nat) (z40 : Nat) (z41 : Nat) (z42 : Nat) (z43 : Nat) (z44 : Nat) (z45 : Nat) (z46 : Nat) (z47 : Nat) (z48 : Nat) (z55 : Nat) (z56 : Nat) (z59 : Nat) (z60 : Nat) (z61 : Nat) (n3 : Int32) (n4 : Int32) (n5 : Int32) (n6 : Int32) (n7 : Int64) (n8 : Int32) (n9 : Int32) (n20 : Int32) (n21 : Int32) (n34 : Int32) (n35 : Int64) (n49 : Int32) (n50 : Int32) (n51 : Int32) (n52 : Int32) (n53 : Int32) (n54 : Int32) (n57 : Int32) (n58 : Int32) (n62 : Int32) (n63 : Int64) (va : Int64) (vb : Int64) (vc : Int64) (n : Nat) (f : Nat → Int32) (hn : n ≤ 1000) (F : Nat) (G : Nat → Int32) (hF : kad vc 8 (kad vb 8 (kad va 5 n)) = F) (hG : kfa vc 8 (kad vb 8 (kad va 5 n)) (kfa vb 8 (kad va 5 n) (kfa va 5 n f)) = G) (hC : kC γ p s m [.ref z, .long va, .long vb, .long vc].toArray c cX12_feed 11 RX12 A) (hr : meth.sig.returnType = (some .int)) (hlocks : meth.locks = false) (H : Heap) (locs : List Loc) (hw : kW γ A [(z, .inr (11, [.int 0, .int (nI n), .ref z2, .int n3, .int n4, .int n5, .int n6, .long n7, .int n8, .int n9, .ref z10, .ref z11, .ref z12, .ref z13, .ref z14, .ref z15, .ref z16, .ref z17, .ref z18, .ref z19, .int n20, .int n21, .ref z22, .ref z23, .ref z24, .ref z25, .ref z26, .ref z27, .ref z28, .ref z29, .ref z30, .ref z31, .ref z32, .ref z33, .int n34, .long n35, .ref z36, .ref z37, .ref z38, .ref z39, .ref z40, .ref z41, .ref z42, .ref z43, .ref z44, .ref z45, .ref z46, .ref z47, .ref z48, .int n49, .int n50, .int n51, .int n52, .int n53, .int n54, .ref z55, .ref z56, .int n57, .int n58, .ref z59, .ref z60, .ref z61, .int n62, .long n63])), (z2, .inl (γ.2.1 0, 1000, .inl f))] s H locs) (ls : Array Slot) (hl : lv_has ls 11 [(7, .int 3), (0, .ref z), (1, .long va), (3, .long vb), (5, .long vc)]) : W p l e ({ frames := 0, cells := 0, slots := 0, locals := 0 } : Room) s m [.ref z, .long va, .long vb, .long vc].toArray below meth c H locs 0 0 (MQ below (kQ γ A (fun r w1 => r = some (.int (nI F)) ∧ w1 = [(z, .inr (11, [.int 0, .int (nI F), .ref z2, .int n3, .int n4, .int n5, .int n6, .long n7, .int n8, .int n9, .ref z10, .ref z11, .ref z12, .ref z13, .ref z14, .ref z15, .ref z16, .ref z17, .ref z18, .ref z19, .int n20, .int n21, .ref z22, .ref z23, .ref z24, .ref z25, .ref z26, .ref z27, .ref z28, .ref z29, .ref z30, .ref z31, .ref z32, .ref z33, .int n34, .long n35, .ref z36, .ref z37, .ref z38, .ref z39, .ref z40, .ref z41, .ref z42, .ref z43, .ref z44, .ref z45, .ref z46, .ref z47, .ref z48, .int n49, .int n50, .int n51, .int n52, .int n53, .int n54, .ref z55, .ref z56, .int n57, .int n58, .ref z59, .ref z60, .ref z61, .int n62, .long n63])), (z2, .inl (γ.2.1 0, 1000, .inl G))])) [.ref z, .long va, .long vb, .long vc].toArray s 0 0 A) (F0 m 8 ls []) := by
  have hx := hC.1
  have hb := hC.2.1
  refine lv_iload hx hb dX12_feed_8 (lv_at hl 0 rfl) ?_
  refine lv_bipush (v := 24) hx hb dX12_feed_10 (by decide) ?_
  refine lv_icmp_ge (tgt := 120) hx hb dX12_feed_12 (by decide) (fun h => absurd h (by decide)) (fun _ => ?_)
  refine lv_iload hx hb dX12_feed_15 (lv_at hl 0 rfl) ?_
  refine lv_bipush (v := 8) hx hb dX12_feed_17 (by decide) ?_
  refine lv_icmp_ge (tgt := 26) hx hb dX12_feed_19 (by decide) (fun h => absurd h (by decide)) (fun _ => ?_)
  refine lv_lload_n hx hb dX12_feed_22 rfl (lv_at hl 2 rfl) ?_
  refine lv_goto (tgt := 39) hx hb dX12_feed_23 (by decide) ?_
  refine lv_lstore (lv' := [(8, .long va), (7, .int 3), (0, .ref z), (1, .long va), (3, .long vb), (5, .long vc)]) hx hb dX12_feed_39 hl (by decide) rfl (fun ls hl => ?_)
  refine lv_lload hx hb dX12_feed_41 (lv_at hl 0 rfl) ?_
  refine lv_bipush (v := 56) hx hb dX12_feed_43 (by decide) ?_
  refine lv_bipush (v := 8) hx hb dX12_feed_45 (by decide) ?_
  refine lv_iload hx hb dX12_feed_47 (lv_at hl 1 rfl) ?_
  refine lv_bipush (v := 7) hx hb dX12_feed_49 (by decide) ?_
  refine lv_iand hx hb dX12_feed_51 ?_
  refine lv_topi (fun x_273 ex_273 => ?_)
  obtain rfl : x_273 = 3 := ex_273.trans (by decide)
  refine lv_imul hx hb dX12_feed_52 ?_
  refine lv_topi (fun x_274 ex_274 => ?_)
  obtain rfl : x_274 = 24 := ex_274.trans (by decide)
  refine lv_isub hx hb dX12_feed_53 ?_
  refine lv_topi (fun x_275 ex_275 => ?_)
  obtain rfl : x_275 = 32 := ex_275.trans (by decide)
  refine lv_lushr hx hb dX12_feed_54 rfl ?_
  refine lv_topl (fun x_276 ex_276 => ?_)
  refine k_ldc2 hC gw_1389 dX12_feed_55 ?_
  refine lv_land hx hb dX12_feed_58 ?_
  refine lv_topl (fun x_277 ex_277 => ?_)
  refine lv_l2i hx hb dX12_feed_59 rfl ?_
  refine lv_topi (fun x_278 ex_278 => ?_)
  refine lv_istore (lv' := [(10, .int x_278), (8, .long va), (7, .int 3), (0, .ref z), (1, .long va), (3, .long vb), (5, .long vc)]) hx hb dX12_feed_60 hl (by decide) rfl (fun ls hl => ?_)
  have hk : x_278 = kby va 32 := by rw [ex_278, ex_277, k_land, ex_276]; rfl
  refine lv_aload_n hx hb dX12_feed_62 rfl (lv_at hl 3 rfl) ?_
  refine fg_RX12_148 hC hw 0 rfl rfl dX12_feed_63 ?_
  refine lv_sipush (v := 1000) hx hb dX12_feed_66 (by decide) ?_
  refine lv_icmp_ge (tgt := 114) hx hb dX12_feed_69 (by decide) (fun c69 => ?_) (fun c69 => ?_)
  · have hfull : ¬ n < 1000 := fun h9 => absurd c69 (nI_ge h9 (by decide))
    refine lv_iinc (v := 4) (lv' := [(7, .int 4), (10, .int x_278), (8, .long va), (0, .ref z), (1, .long va), (3, .long vb), (5, .long vc)]) hx hb dX12_feed_114 hl (k := 2) rfl (by decide) (by decide) rfl (fun ls hl => ?_)
    refine lv_goto (tgt := 8) hx hb dX12_feed_117 (by decide) ?_
    have hst : kst n (kby va 32) = n := by rw [← hk]; exact (by first | exact kst_full hfull | exact kst_a c76 hlt | exact kst_b c83 c90 hlt | exact kst_lo c76 c83 | exact kst_hi c76 c90)
    have hup : kup f n (kby va 32) = f := by rw [← hk]; exact (by first | exact kup_full hfull | exact kup_lo c76 c83 | exact kup_hi c76 c90)
    exact mf_4 z z2 z10 z11 z12 z13 z14 z15 z16 z17 z18 z19 z22 z23 z24 z25 z26 z27 z28 z29 z30 z31 z32 z33 z36 z37 z38 z39 z40 z41 z42 z43 z44 z45 z46 z47 z48 z55 z56 z59 z60 z61 n3 n4 n5 n6 n7 n8 n9 n20 n21 n34 n35 n49 n50 n51 n52 n53 n54 n57 n58 n62 n63 va vb vc n f (by omega) F G (by have h9 : kad vc 8 (kad vb 8 (kad va 4 (kst n (kby va 32)))) = F := hF; rw [hst] at h9; exact h9) (by have h9 : kfa vc 8 (kad vb 8 (kad va 4 (kst n (kby va 32)))) (kfa vb 8 (kad va 4 (kst n (kby va 32))) (kfa va 4 (kst n (kby va 32)) (kup f n (kby va 32)))) = G := hG; rw [hst, hup] at h9; exact h9) hC hr hlocks _ _ (kW.sub hw [0, 1] rfl rfl) _ (lv_sub hl [0, 3, 4, 5, 6] rfl)
  · have hlt : n < 1000 := by rcases Nat.lt_or_ge n 1000 with h9 | h9; exact h9; exact absurd (nI_le h9 (by omega)) c69
    refine lv_iload hx hb dX12_feed_72 (lv_at hl 0 rfl) ?_
    refine lv_bipush (v := 10) hx hb dX12_feed_74 (by decide) ?_
    refine lv_icmp_eq (tgt := 93) hx hb dX12_feed_76 (by decide) (fun c76 => ?_) (fun c76 => ?_)
    · refine lv_aload_n hx hb dX12_feed_93 rfl (lv_at hl 3 rfl) ?_
      refine fg_RX12_7 hC hw 0 rfl rfl dX12_feed_94 ?_
      refine lv_aload_n hx hb dX12_feed_97 rfl (lv_at hl 3 rfl) ?_
      refine fg_RX12_148 hC hw 0 rfl rfl dX12_feed_98 ?_
      refine lv_iload hx hb dX12_feed_101 (lv_at hl 0 rfl) ?_
      refine k_iast hC hw 1 rfl (vp_in_nI hlt (by decide)) dX12_feed_103 (fun H locs hw => ?_)
      obtain ⟨f_279, ef_279⟩ : ∃ g, g = upd f ((nI n) : Int32).toNatClampNeg x_278 := ⟨_, rfl⟩
      have hw : kW γ A [(z, .inr (11, [.int 0, .int (nI n), .ref z2, .int n3, .int n4, .int n5, .int n6, .long n7, .int n8, .int n9, .ref z10, .ref z11, .ref z12, .ref z13, .ref z14, .ref z15, .ref z16, .ref z17, .ref z18, .ref z19, .int n20, .int n21, .ref z22, .ref z23, .ref z24, .ref z25, .ref z26, .ref z27, .ref z28, .ref z29, .ref z30, .ref z31, .ref z32, .ref z33, .int n34, .long n35, .ref z36, .ref z37, .ref z38, .ref z39, .ref z40, .ref z41, .ref z42, .ref z43, .ref z44, .ref z45, .ref z46, .ref z47, .ref z48, .int n49, .int n50, .int n51, .int n52, .int n53, .int n54, .ref z55, .ref z56, .int n57, .int n58, .ref z59, .ref z60, .ref z61, .int n62, .long n63])), (z2, .inl (γ.2.1 0, 1000, .inl f_279))] s H locs := by rw [ef_279]; exact hw
      refine lv_aload_n hx hb dX12_feed_104 rfl (lv_at hl 3 rfl) ?_
      refine lv_dup hx hb dX12_feed_105 rfl ?_
      refine fg_RX12_148 hC hw 0 rfl rfl dX12_feed_106 ?_
      refine lv_iconst (v := 1) hx hb dX12_feed_109 (by decide) ?_
      refine lv_iadd hx hb dX12_feed_110 ?_
      refine lv_topi (fun x_280 ex_280 => ?_)
      obtain rfl : x_280 = (nI (n + 1)) := ex_280.trans (nI_1 n)
      refine fs_RX12_148 hC hw 0 rfl rfl rfl (Nat.le_of_ble_eq_true rfl) dX12_feed_111 (fun H locs hw => ?_)
      have hw : kW γ A [(z, .inr (11, [.int 0, .int (nI (n + 1)), .ref z2, .int n3, .int n4, .int n5, .int n6, .long n7, .int n8, .int n9, .ref z10, .ref z11, .ref z12, .ref z13, .ref z14, .ref z15, .ref z16, .ref z17, .ref z18, .ref z19, .int n20, .int n21, .ref z22, .ref z23, .ref z24, .ref z25, .ref z26, .ref z27, .ref z28, .ref z29, .ref z30, .ref z31, .ref z32, .ref z33, .int n34, .long n35, .ref z36, .ref z37, .ref z38, .ref z39, .ref z40, .ref z41, .ref z42, .ref z43, .ref z44, .ref z45, .ref z46, .ref z47, .ref z48, .int n49, .int n50, .int n51, .int n52, .int n53, .int n54, .ref z55, .ref z56, .int n57, .int n58, .ref z59, .ref z60, .ref z61, .int n62, .long n63])), (z2, .inl (γ.2.1 0, 1000, .inl f_279))] s H locs := hw
      refine lv_iinc (v := 4) (lv' := [(7, .int 4), (10, .int x_278), (8, .long va), (0, .ref z), (1, .long va), (3, .long vb), (5, .long vc)]) hx hb dX12_feed_114 hl (k := 2) rfl (by decide) (by decide) rfl (fun ls hl => ?_)
      refine lv_goto (tgt := 8) hx hb dX12_feed_117 (by decide) ?_
      have hst : kst n (kby va 32) = (n + 1) := by rw [← hk]; exact (by first | exact kst_full hfull | exact kst_a c76 hlt | exact kst_b c83 c90 hlt | exact kst_lo c76 c83 | exact kst_hi c76 c90)
      have hup : kup f n (kby va 32) = f_279 := by rw [← hk, ef_279, nI_clamp (by omega)]; exact kup_y (by first | exact kok_a c76 | exact kok_b c83 c90) hlt
      exact mf_4 z z2 z10 z11 z12 z13 z14 z15 z16 z17 z18 z19 z22 z23 z24 z25 z26 z27 z28 z29 z30 z31 z32 z33 z36 z37 z38 z39 z40 z41 z42 z43 z44 z45 z46 z47 z48 z55 z56 z59 z60 z61 n3 n4 n5 n6 n7 n8 n9 n20 n21 n34 n35 n49 n50 n51 n52 n53 n54 n57 n58 n62 n63 va vb vc (n + 1) f_279 (by omega) F G (by have h9 : kad vc 8 (kad vb 8 (kad va 4 (kst n (kby va 32)))) = F := hF; rw [hst] at h9; exact h9) (by have h9 : kfa vc 8 (kad vb 8 (kad va 4 (kst n (kby va 32)))) (kfa vb 8 (kad va 4 (kst n (kby va 32))) (kfa va 4 (kst n (kby va 32)) (kup f n (kby va 32)))) = G := hG; rw [hst, hup] at h9; exact h9) hC hr hlocks _ _ (kW.sub hw [0, 1] rfl rfl) _ (lv_sub hl [0, 3, 4, 5, 6] rfl)
    · refine lv_iload hx hb dX12_feed_79 (lv_at hl 0 rfl) ?_
      refine lv_bipush (v := 32) hx hb dX12_feed_81 (by decide) ?_
      refine lv_icmp_lt (tgt := 114) hx hb dX12_feed_83 (by decide) (fun c83 => ?_) (fun c83 => ?_)
      · refine lv_iinc (v := 4) (lv' := [(7, .int 4), (10, .int x_278), (8, .long va), (0, .ref z), (1, .long va), (3, .long vb), (5, .long vc)]) hx hb dX12_feed_114 hl (k := 2) rfl (by decide) (by decide) rfl (fun ls hl => ?_)
        refine lv_goto (tgt := 8) hx hb dX12_feed_117 (by decide) ?_
        have hst : kst n (kby va 32) = n := by rw [← hk]; exact (by first | exact kst_full hfull | exact kst_a c76 hlt | exact kst_b c83 c90 hlt | exact kst_lo c76 c83 | exact kst_hi c76 c90)
        have hup : kup f n (kby va 32) = f := by rw [← hk]; exact (by first | exact kup_full hfull | exact kup_lo c76 c83 | exact kup_hi c76 c90)
        exact mf_4 z z2 z10 z11 z12 z13 z14 z15 z16 z17 z18 z19 z22 z23 z24 z25 z26 z27 z28 z29 z30 z31 z32 z33 z36 z37 z38 z39 z40 z41 z42 z43 z44 z45 z46 z47 z48 z55 z56 z59 z60 z61 n3 n4 n5 n6 n7 n8 n9 n20 n21 n34 n35 n49 n50 n51 n52 n53 n54 n57 n58 n62 n63 va vb vc n f (by omega) F G (by have h9 : kad vc 8 (kad vb 8 (kad va 4 (kst n (kby va 32)))) = F := hF; rw [hst] at h9; exact h9) (by have h9 : kfa vc 8 (kad vb 8 (kad va 4 (kst n (kby va 32)))) (kfa vb 8 (kad va 4 (kst n (kby va 32))) (kfa va 4 (kst n (kby va 32)) (kup f n (kby va 32)))) = G := hG; rw [hst, hup] at h9; exact h9) hC hr hlocks _ _ (kW.sub hw [0, 1] rfl rfl) _ (lv_sub hl [0, 3, 4, 5, 6] rfl)
      · refine lv_iload hx hb dX12_feed_86 (lv_at hl 0 rfl) ?_
        refine lv_bipush (v := 126) hx hb dX12_feed_88 (by decide) ?_
        refine lv_icmp_gt (tgt := 114) hx hb dX12_feed_90 (by decide) (fun c90 => ?_) (fun c90 => ?_)
        · refine lv_iinc (v := 4) (lv' := [(7, .int 4), (10, .int x_278), (8, .long va), (0, .ref z), (1, .long va), (3, .long vb), (5, .long vc)]) hx hb dX12_feed_114 hl (k := 2) rfl (by decide) (by decide) rfl (fun ls hl => ?_)
          refine lv_goto (tgt := 8) hx hb dX12_feed_117 (by decide) ?_
          have hst : kst n (kby va 32) = n := by rw [← hk]; exact (by first | exact kst_full hfull | exact kst_a c76 hlt | exact kst_b c83 c90 hlt | exact kst_lo c76 c83 | exact kst_hi c76 c90)
          have hup : kup f n (kby va 32) = f := by rw [← hk]; exact (by first | exact kup_full hfull | exact kup_lo c76 c83 | exact kup_hi c76 c90)
          exact mf_4 z z2 z10 z11 z12 z13 z14 z15 z16 z17 z18 z19 z22 z23 z24 z25 z26 z27 z28 z29 z30 z31 z32 z33 z36 z37 z38 z39 z40 z41 z42 z43 z44 z45 z46 z47 z48 z55 z56 z59 z60 z61 n3 n4 n5 n6 n7 n8 n9 n20 n21 n34 n35 n49 n50 n51 n52 n53 n54 n57 n58 n62 n63 va vb vc n f (by omega) F G (by have h9 : kad vc 8 (kad vb 8 (kad va 4 (kst n (kby va 32)))) = F := hF; rw [hst] at h9; exact h9) (by have h9 : kfa vc 8 (kad vb 8 (kad va 4 (kst n (kby va 32)))) (kfa vb 8 (kad va 4 (kst n (kby va 32))) (kfa va 4 (kst n (kby va 32)) (kup f n (kby va 32)))) = G := hG; rw [hst, hup] at h9; exact h9) hC hr hlocks _ _ (kW.sub hw [0, 1] rfl rfl) _ (lv_sub hl [0, 3, 4, 5, 6] rfl)
        · refine lv_aload_n hx hb dX12_feed_93 rfl (lv_at hl 3 rfl) ?_
          refine fg_RX12_7 hC hw 0 rfl rfl dX12_feed_94 ?_
          refine lv_aload_n hx hb dX12_feed_97 rfl (lv_at hl 3 rfl) ?_
          refine fg_RX12_148 hC hw 0 rfl rfl dX12_feed_98 ?_
          refine lv_iload hx hb dX12_feed_101 (lv_at hl 0 rfl) ?_
          refine k_iast hC hw 1 rfl (vp_in_nI hlt (by decide)) dX12_feed_103 (fun H locs hw => ?_)
          obtain ⟨f_281, ef_281⟩ : ∃ g, g = upd f ((nI n) : Int32).toNatClampNeg x_278 := ⟨_, rfl⟩
          have hw : kW γ A [(z, .inr (11, [.int 0, .int (nI n), .ref z2, .int n3, .int n4, .int n5, .int n6, .long n7, .int n8, .int n9, .ref z10, .ref z11, .ref z12, .ref z13, .ref z14, .ref z15, .ref z16, .ref z17, .ref z18, .ref z19, .int n20, .int n21, .ref z22, .ref z23, .ref z24, .ref z25, .ref z26, .ref z27, .ref z28, .ref z29, .ref z30, .ref z31, .ref z32, .ref z33, .int n34, .long n35, .ref z36, .ref z37, .ref z38, .ref z39, .ref z40, .ref z41, .ref z42, .ref z43, .ref z44, .ref z45, .ref z46, .ref z47, .ref z48, .int n49, .int n50, .int n51, .int n52, .int n53, .int n54, .ref z55, .ref z56, .int n57, .int n58, .ref z59, .ref z60, .ref z61, .int n62, .long n63])), (z2, .inl (γ.2.1 0, 1000, .inl f_281))] s H locs := by rw [ef_281]; exact hw
          refine lv_aload_n hx hb dX12_feed_104 rfl (lv_at hl 3 rfl) ?_
          refine lv_dup hx hb dX12_feed_105 rfl ?_
          refine fg_RX12_148 hC hw 0 rfl rfl dX12_feed_106 ?_
          refine lv_iconst (v := 1) hx hb dX12_feed_109 (by decide) ?_
          refine lv_iadd hx hb dX12_feed_110 ?_
          refine lv_topi (fun x_282 ex_282 => ?_)
          obtain rfl : x_282 = (nI (n + 1)) := ex_282.trans (nI_1 n)
          refine fs_RX12_148 hC hw 0 rfl rfl rfl (Nat.le_of_ble_eq_true rfl) dX12_feed_111 (fun H locs hw => ?_)
          have hw : kW γ A [(z, .inr (11, [.int 0, .int (nI (n + 1)), .ref z2, .int n3, .int n4, .int n5, .int n6, .long n7, .int n8, .int n9, .ref z10, .ref z11, .ref z12, .ref z13, .ref z14, .ref z15, .ref z16, .ref z17, .ref z18, .ref z19, .int n20, .int n21, .ref z22, .ref z23, .ref z24, .ref z25, .ref z26, .ref z27, .ref z28, .ref z29, .ref z30, .ref z31, .ref z32, .ref z33, .int n34, .long n35, .ref z36, .ref z37, .ref z38, .ref z39, .ref z40, .ref z41, .ref z42, .ref z43, .ref z44, .ref z45, .ref z46, .ref z47, .ref z48, .int n49, .int n50, .int n51, .int n52, .int n53, .int n54, .ref z55, .ref z56, .int n57, .int n58, .ref z59, .ref z60, .ref z61, .int n62, .long n63])), (z2, .inl (γ.2.1 0, 1000, .inl f_281))] s H locs := hw
          refine lv_iinc (v := 4) (lv' := [(7, .int 4), (10, .int x_278), (8, .long va), (0, .ref z), (1, .long va), (3, .long vb), (5, .long vc)]) hx hb dX12_feed_114 hl (k := 2) rfl (by decide) (by decide) rfl (fun ls hl => ?_)
          refine lv_goto (tgt := 8) hx hb dX12_feed_117 (by decide) ?_
          have hst : kst n (kby va 32) = (n + 1) := by rw [← hk]; exact (by first | exact kst_full hfull | exact kst_a c76 hlt | exact kst_b c83 c90 hlt | exact kst_lo c76 c83 | exact kst_hi c76 c90)
          have hup : kup f n (kby va 32) = f_281 := by rw [← hk, ef_281, nI_clamp (by omega)]; exact kup_y (by first | exact kok_a c76 | exact kok_b c83 c90) hlt
          exact mf_4 z z2 z10 z11 z12 z13 z14 z15 z16 z17 z18 z19 z22 z23 z24 z25 z26 z27 z28 z29 z30 z31 z32 z33 z36 z37 z38 z39 z40 z41 z42 z43 z44 z45 z46 z47 z48 z55 z56 z59 z60 z61 n3 n4 n5 n6 n7 n8 n9 n20 n21 n34 n35 n49 n50 n51 n52 n53 n54 n57 n58 n62 n63 va vb vc (n + 1) f_281 (by omega) F G (by have h9 : kad vc 8 (kad vb 8 (kad va 4 (kst n (kby va 32)))) = F := hF; rw [hst] at h9; exact h9) (by have h9 : kfa vc 8 (kad vb 8 (kad va 4 (kst n (kby va 32)))) (kfa vb 8 (kad va 4 (kst n (kby va 32))) (kfa va 4 (kst n (kby va 32)) (kup f n (kby va 32)))) = G := hG; rw [hst, hup] at h9; exact h9) hC hr hlocks _ _ (kW.sub hw [0, 1] rfl rfl) _ (lv_sub hl [0, 3, 4, 5, 6] rfl)

set_option maxHeartbeats 4000000 in
set_option maxRecDepth 100000 in
theorem mf_2 {γ : kΓ} {l : Launch} {p : Program} {e : Env} {s : State} {m : MethodId} {below : List Frame} {meth : Method} {c : Code} {A : Nat → Prop} (z : Nat) (z2 : Nat) (z10 : Nat) (z11 : Nat) (z12 : Nat) (z13 : Nat) (z14 : Nat) (z15 : Nat) (z16 : Nat) (z17 : Nat) (z18 : Nat) (z19 : Nat) (z22 : Nat) (z23 : Nat) (z24 : Nat) (z25 : Nat) (z26 : Nat) (z27 : Nat) (z28 : Nat) (z29 : Nat) (z30 : Nat) (z31 : Nat) (z32 : Nat) (z33 : Nat) (z36 : Nat) (z37 : Nat) (z38 : Nat) (z39 : Nat) (z40 : Nat) (z41 : Nat) (z42 : Nat) (z43 : Nat) (z44 : Nat) (z45 : Nat) (z46 : Nat) (z47 : Nat) (z48 : Nat) (z55 : Nat) (z56 : Nat) (z59 : Nat) (z60 : Nat) (z61 : Nat) (n3 : Int32) (n4 : Int32) (n5 : Int32) (n6 : Int32) (n7 : Int64) (n8 : Int32) (n9 : Int32) (n20 : Int32) (n21 : Int32) (n34 : Int32) (n35 : Int64) (n49 : Int32) (n50 : Int32) (n51 : Int32) (n52 : Int32) (n53 : Int32) (n54 : Int32) (n57 : Int32) (n58 : Int32) (n62 : Int32) (n63 : Int64) (va : Int64) (vb : Int64) (vc : Int64) (n : Nat) (f : Nat → Int32) (hn : n ≤ 1000) (F : Nat) (G : Nat → Int32) (hF : kad vc 8 (kad vb 8 (kad va 6 n)) = F) (hG : kfa vc 8 (kad vb 8 (kad va 6 n)) (kfa vb 8 (kad va 6 n) (kfa va 6 n f)) = G) (hC : kC γ p s m [.ref z, .long va, .long vb, .long vc].toArray c cX12_feed 11 RX12 A) (hr : meth.sig.returnType = (some .int)) (hlocks : meth.locks = false) (H : Heap) (locs : List Loc) (hw : kW γ A [(z, .inr (11, [.int 0, .int (nI n), .ref z2, .int n3, .int n4, .int n5, .int n6, .long n7, .int n8, .int n9, .ref z10, .ref z11, .ref z12, .ref z13, .ref z14, .ref z15, .ref z16, .ref z17, .ref z18, .ref z19, .int n20, .int n21, .ref z22, .ref z23, .ref z24, .ref z25, .ref z26, .ref z27, .ref z28, .ref z29, .ref z30, .ref z31, .ref z32, .ref z33, .int n34, .long n35, .ref z36, .ref z37, .ref z38, .ref z39, .ref z40, .ref z41, .ref z42, .ref z43, .ref z44, .ref z45, .ref z46, .ref z47, .ref z48, .int n49, .int n50, .int n51, .int n52, .int n53, .int n54, .ref z55, .ref z56, .int n57, .int n58, .ref z59, .ref z60, .ref z61, .int n62, .long n63])), (z2, .inl (γ.2.1 0, 1000, .inl f))] s H locs) (ls : Array Slot) (hl : lv_has ls 11 [(7, .int 2), (0, .ref z), (1, .long va), (3, .long vb), (5, .long vc)]) : W p l e ({ frames := 0, cells := 0, slots := 0, locals := 0 } : Room) s m [.ref z, .long va, .long vb, .long vc].toArray below meth c H locs 0 0 (MQ below (kQ γ A (fun r w1 => r = some (.int (nI F)) ∧ w1 = [(z, .inr (11, [.int 0, .int (nI F), .ref z2, .int n3, .int n4, .int n5, .int n6, .long n7, .int n8, .int n9, .ref z10, .ref z11, .ref z12, .ref z13, .ref z14, .ref z15, .ref z16, .ref z17, .ref z18, .ref z19, .int n20, .int n21, .ref z22, .ref z23, .ref z24, .ref z25, .ref z26, .ref z27, .ref z28, .ref z29, .ref z30, .ref z31, .ref z32, .ref z33, .int n34, .long n35, .ref z36, .ref z37, .ref z38, .ref z39, .ref z40, .ref z41, .ref z42, .ref z43, .ref z44, .ref z45, .ref z46, .ref z47, .ref z48, .int n49, .int n50, .int n51, .int n52, .int n53, .int n54, .ref z55, .ref z56, .int n57, .int n58, .ref z59, .ref z60, .ref z61, .int n62, .long n63])), (z2, .inl (γ.2.1 0, 1000, .inl G))])) [.ref z, .long va, .long vb, .long vc].toArray s 0 0 A) (F0 m 8 ls []) := by
  have hx := hC.1
  have hb := hC.2.1
  refine lv_iload hx hb dX12_feed_8 (lv_at hl 0 rfl) ?_
  refine lv_bipush (v := 24) hx hb dX12_feed_10 (by decide) ?_
  refine lv_icmp_ge (tgt := 120) hx hb dX12_feed_12 (by decide) (fun h => absurd h (by decide)) (fun _ => ?_)
  refine lv_iload hx hb dX12_feed_15 (lv_at hl 0 rfl) ?_
  refine lv_bipush (v := 8) hx hb dX12_feed_17 (by decide) ?_
  refine lv_icmp_ge (tgt := 26) hx hb dX12_feed_19 (by decide) (fun h => absurd h (by decide)) (fun _ => ?_)
  refine lv_lload_n hx hb dX12_feed_22 rfl (lv_at hl 2 rfl) ?_
  refine lv_goto (tgt := 39) hx hb dX12_feed_23 (by decide) ?_
  refine lv_lstore (lv' := [(8, .long va), (7, .int 2), (0, .ref z), (1, .long va), (3, .long vb), (5, .long vc)]) hx hb dX12_feed_39 hl (by decide) rfl (fun ls hl => ?_)
  refine lv_lload hx hb dX12_feed_41 (lv_at hl 0 rfl) ?_
  refine lv_bipush (v := 56) hx hb dX12_feed_43 (by decide) ?_
  refine lv_bipush (v := 8) hx hb dX12_feed_45 (by decide) ?_
  refine lv_iload hx hb dX12_feed_47 (lv_at hl 1 rfl) ?_
  refine lv_bipush (v := 7) hx hb dX12_feed_49 (by decide) ?_
  refine lv_iand hx hb dX12_feed_51 ?_
  refine lv_topi (fun x_283 ex_283 => ?_)
  obtain rfl : x_283 = 2 := ex_283.trans (by decide)
  refine lv_imul hx hb dX12_feed_52 ?_
  refine lv_topi (fun x_284 ex_284 => ?_)
  obtain rfl : x_284 = 16 := ex_284.trans (by decide)
  refine lv_isub hx hb dX12_feed_53 ?_
  refine lv_topi (fun x_285 ex_285 => ?_)
  obtain rfl : x_285 = 40 := ex_285.trans (by decide)
  refine lv_lushr hx hb dX12_feed_54 rfl ?_
  refine lv_topl (fun x_286 ex_286 => ?_)
  refine k_ldc2 hC gw_1389 dX12_feed_55 ?_
  refine lv_land hx hb dX12_feed_58 ?_
  refine lv_topl (fun x_287 ex_287 => ?_)
  refine lv_l2i hx hb dX12_feed_59 rfl ?_
  refine lv_topi (fun x_288 ex_288 => ?_)
  refine lv_istore (lv' := [(10, .int x_288), (8, .long va), (7, .int 2), (0, .ref z), (1, .long va), (3, .long vb), (5, .long vc)]) hx hb dX12_feed_60 hl (by decide) rfl (fun ls hl => ?_)
  have hk : x_288 = kby va 40 := by rw [ex_288, ex_287, k_land, ex_286]; rfl
  refine lv_aload_n hx hb dX12_feed_62 rfl (lv_at hl 3 rfl) ?_
  refine fg_RX12_148 hC hw 0 rfl rfl dX12_feed_63 ?_
  refine lv_sipush (v := 1000) hx hb dX12_feed_66 (by decide) ?_
  refine lv_icmp_ge (tgt := 114) hx hb dX12_feed_69 (by decide) (fun c69 => ?_) (fun c69 => ?_)
  · have hfull : ¬ n < 1000 := fun h9 => absurd c69 (nI_ge h9 (by decide))
    refine lv_iinc (v := 3) (lv' := [(7, .int 3), (10, .int x_288), (8, .long va), (0, .ref z), (1, .long va), (3, .long vb), (5, .long vc)]) hx hb dX12_feed_114 hl (k := 2) rfl (by decide) (by decide) rfl (fun ls hl => ?_)
    refine lv_goto (tgt := 8) hx hb dX12_feed_117 (by decide) ?_
    have hst : kst n (kby va 40) = n := by rw [← hk]; exact (by first | exact kst_full hfull | exact kst_a c76 hlt | exact kst_b c83 c90 hlt | exact kst_lo c76 c83 | exact kst_hi c76 c90)
    have hup : kup f n (kby va 40) = f := by rw [← hk]; exact (by first | exact kup_full hfull | exact kup_lo c76 c83 | exact kup_hi c76 c90)
    exact mf_3 z z2 z10 z11 z12 z13 z14 z15 z16 z17 z18 z19 z22 z23 z24 z25 z26 z27 z28 z29 z30 z31 z32 z33 z36 z37 z38 z39 z40 z41 z42 z43 z44 z45 z46 z47 z48 z55 z56 z59 z60 z61 n3 n4 n5 n6 n7 n8 n9 n20 n21 n34 n35 n49 n50 n51 n52 n53 n54 n57 n58 n62 n63 va vb vc n f (by omega) F G (by have h9 : kad vc 8 (kad vb 8 (kad va 5 (kst n (kby va 40)))) = F := hF; rw [hst] at h9; exact h9) (by have h9 : kfa vc 8 (kad vb 8 (kad va 5 (kst n (kby va 40)))) (kfa vb 8 (kad va 5 (kst n (kby va 40))) (kfa va 5 (kst n (kby va 40)) (kup f n (kby va 40)))) = G := hG; rw [hst, hup] at h9; exact h9) hC hr hlocks _ _ (kW.sub hw [0, 1] rfl rfl) _ (lv_sub hl [0, 3, 4, 5, 6] rfl)
  · have hlt : n < 1000 := by rcases Nat.lt_or_ge n 1000 with h9 | h9; exact h9; exact absurd (nI_le h9 (by omega)) c69
    refine lv_iload hx hb dX12_feed_72 (lv_at hl 0 rfl) ?_
    refine lv_bipush (v := 10) hx hb dX12_feed_74 (by decide) ?_
    refine lv_icmp_eq (tgt := 93) hx hb dX12_feed_76 (by decide) (fun c76 => ?_) (fun c76 => ?_)
    · refine lv_aload_n hx hb dX12_feed_93 rfl (lv_at hl 3 rfl) ?_
      refine fg_RX12_7 hC hw 0 rfl rfl dX12_feed_94 ?_
      refine lv_aload_n hx hb dX12_feed_97 rfl (lv_at hl 3 rfl) ?_
      refine fg_RX12_148 hC hw 0 rfl rfl dX12_feed_98 ?_
      refine lv_iload hx hb dX12_feed_101 (lv_at hl 0 rfl) ?_
      refine k_iast hC hw 1 rfl (vp_in_nI hlt (by decide)) dX12_feed_103 (fun H locs hw => ?_)
      obtain ⟨f_289, ef_289⟩ : ∃ g, g = upd f ((nI n) : Int32).toNatClampNeg x_288 := ⟨_, rfl⟩
      have hw : kW γ A [(z, .inr (11, [.int 0, .int (nI n), .ref z2, .int n3, .int n4, .int n5, .int n6, .long n7, .int n8, .int n9, .ref z10, .ref z11, .ref z12, .ref z13, .ref z14, .ref z15, .ref z16, .ref z17, .ref z18, .ref z19, .int n20, .int n21, .ref z22, .ref z23, .ref z24, .ref z25, .ref z26, .ref z27, .ref z28, .ref z29, .ref z30, .ref z31, .ref z32, .ref z33, .int n34, .long n35, .ref z36, .ref z37, .ref z38, .ref z39, .ref z40, .ref z41, .ref z42, .ref z43, .ref z44, .ref z45, .ref z46, .ref z47, .ref z48, .int n49, .int n50, .int n51, .int n52, .int n53, .int n54, .ref z55, .ref z56, .int n57, .int n58, .ref z59, .ref z60, .ref z61, .int n62, .long n63])), (z2, .inl (γ.2.1 0, 1000, .inl f_289))] s H locs := by rw [ef_289]; exact hw
      refine lv_aload_n hx hb dX12_feed_104 rfl (lv_at hl 3 rfl) ?_
      refine lv_dup hx hb dX12_feed_105 rfl ?_
      refine fg_RX12_148 hC hw 0 rfl rfl dX12_feed_106 ?_
      refine lv_iconst (v := 1) hx hb dX12_feed_109 (by decide) ?_
      refine lv_iadd hx hb dX12_feed_110 ?_
      refine lv_topi (fun x_290 ex_290 => ?_)
      obtain rfl : x_290 = (nI (n + 1)) := ex_290.trans (nI_1 n)
      refine fs_RX12_148 hC hw 0 rfl rfl rfl (Nat.le_of_ble_eq_true rfl) dX12_feed_111 (fun H locs hw => ?_)
      have hw : kW γ A [(z, .inr (11, [.int 0, .int (nI (n + 1)), .ref z2, .int n3, .int n4, .int n5, .int n6, .long n7, .int n8, .int n9, .ref z10, .ref z11, .ref z12, .ref z13, .ref z14, .ref z15, .ref z16, .ref z17, .ref z18, .ref z19, .int n20, .int n21, .ref z22, .ref z23, .ref z24, .ref z25, .ref z26, .ref z27, .ref z28, .ref z29, .ref z30, .ref z31, .ref z32, .ref z33, .int n34, .long n35, .ref z36, .ref z37, .ref z38, .ref z39, .ref z40, .ref z41, .ref z42, .ref z43, .ref z44, .ref z45, .ref z46, .ref z47, .ref z48, .int n49, .int n50, .int n51, .int n52, .int n53, .int n54, .ref z55, .ref z56, .int n57, .int n58, .ref z59, .ref z60, .ref z61, .int n62, .long n63])), (z2, .inl (γ.2.1 0, 1000, .inl f_289))] s H locs := hw
      refine lv_iinc (v := 3) (lv' := [(7, .int 3), (10, .int x_288), (8, .long va), (0, .ref z), (1, .long va), (3, .long vb), (5, .long vc)]) hx hb dX12_feed_114 hl (k := 2) rfl (by decide) (by decide) rfl (fun ls hl => ?_)
      refine lv_goto (tgt := 8) hx hb dX12_feed_117 (by decide) ?_
      have hst : kst n (kby va 40) = (n + 1) := by rw [← hk]; exact (by first | exact kst_full hfull | exact kst_a c76 hlt | exact kst_b c83 c90 hlt | exact kst_lo c76 c83 | exact kst_hi c76 c90)
      have hup : kup f n (kby va 40) = f_289 := by rw [← hk, ef_289, nI_clamp (by omega)]; exact kup_y (by first | exact kok_a c76 | exact kok_b c83 c90) hlt
      exact mf_3 z z2 z10 z11 z12 z13 z14 z15 z16 z17 z18 z19 z22 z23 z24 z25 z26 z27 z28 z29 z30 z31 z32 z33 z36 z37 z38 z39 z40 z41 z42 z43 z44 z45 z46 z47 z48 z55 z56 z59 z60 z61 n3 n4 n5 n6 n7 n8 n9 n20 n21 n34 n35 n49 n50 n51 n52 n53 n54 n57 n58 n62 n63 va vb vc (n + 1) f_289 (by omega) F G (by have h9 : kad vc 8 (kad vb 8 (kad va 5 (kst n (kby va 40)))) = F := hF; rw [hst] at h9; exact h9) (by have h9 : kfa vc 8 (kad vb 8 (kad va 5 (kst n (kby va 40)))) (kfa vb 8 (kad va 5 (kst n (kby va 40))) (kfa va 5 (kst n (kby va 40)) (kup f n (kby va 40)))) = G := hG; rw [hst, hup] at h9; exact h9) hC hr hlocks _ _ (kW.sub hw [0, 1] rfl rfl) _ (lv_sub hl [0, 3, 4, 5, 6] rfl)
    · refine lv_iload hx hb dX12_feed_79 (lv_at hl 0 rfl) ?_
      refine lv_bipush (v := 32) hx hb dX12_feed_81 (by decide) ?_
      refine lv_icmp_lt (tgt := 114) hx hb dX12_feed_83 (by decide) (fun c83 => ?_) (fun c83 => ?_)
      · refine lv_iinc (v := 3) (lv' := [(7, .int 3), (10, .int x_288), (8, .long va), (0, .ref z), (1, .long va), (3, .long vb), (5, .long vc)]) hx hb dX12_feed_114 hl (k := 2) rfl (by decide) (by decide) rfl (fun ls hl => ?_)
        refine lv_goto (tgt := 8) hx hb dX12_feed_117 (by decide) ?_
        have hst : kst n (kby va 40) = n := by rw [← hk]; exact (by first | exact kst_full hfull | exact kst_a c76 hlt | exact kst_b c83 c90 hlt | exact kst_lo c76 c83 | exact kst_hi c76 c90)
        have hup : kup f n (kby va 40) = f := by rw [← hk]; exact (by first | exact kup_full hfull | exact kup_lo c76 c83 | exact kup_hi c76 c90)
        exact mf_3 z z2 z10 z11 z12 z13 z14 z15 z16 z17 z18 z19 z22 z23 z24 z25 z26 z27 z28 z29 z30 z31 z32 z33 z36 z37 z38 z39 z40 z41 z42 z43 z44 z45 z46 z47 z48 z55 z56 z59 z60 z61 n3 n4 n5 n6 n7 n8 n9 n20 n21 n34 n35 n49 n50 n51 n52 n53 n54 n57 n58 n62 n63 va vb vc n f (by omega) F G (by have h9 : kad vc 8 (kad vb 8 (kad va 5 (kst n (kby va 40)))) = F := hF; rw [hst] at h9; exact h9) (by have h9 : kfa vc 8 (kad vb 8 (kad va 5 (kst n (kby va 40)))) (kfa vb 8 (kad va 5 (kst n (kby va 40))) (kfa va 5 (kst n (kby va 40)) (kup f n (kby va 40)))) = G := hG; rw [hst, hup] at h9; exact h9) hC hr hlocks _ _ (kW.sub hw [0, 1] rfl rfl) _ (lv_sub hl [0, 3, 4, 5, 6] rfl)
      · refine lv_iload hx hb dX12_feed_86 (lv_at hl 0 rfl) ?_
        refine lv_bipush (v := 126) hx hb dX12_feed_88 (by decide) ?_
        refine lv_icmp_gt (tgt := 114) hx hb dX12_feed_90 (by decide) (fun c90 => ?_) (fun c90 => ?_)
        · refine lv_iinc (v := 3) (lv' := [(7, .int 3), (10, .int x_288), (8, .long va), (0, .ref z), (1, .long va), (3, .long vb), (5, .long vc)]) hx hb dX12_feed_114 hl (k := 2) rfl (by decide) (by decide) rfl (fun ls hl => ?_)
          refine lv_goto (tgt := 8) hx hb dX12_feed_117 (by decide) ?_
          have hst : kst n (kby va 40) = n := by rw [← hk]; exact (by first | exact kst_full hfull | exact kst_a c76 hlt | exact kst_b c83 c90 hlt | exact kst_lo c76 c83 | exact kst_hi c76 c90)
          have hup : kup f n (kby va 40) = f := by rw [← hk]; exact (by first | exact kup_full hfull | exact kup_lo c76 c83 | exact kup_hi c76 c90)
          exact mf_3 z z2 z10 z11 z12 z13 z14 z15 z16 z17 z18 z19 z22 z23 z24 z25 z26 z27 z28 z29 z30 z31 z32 z33 z36 z37 z38 z39 z40 z41 z42 z43 z44 z45 z46 z47 z48 z55 z56 z59 z60 z61 n3 n4 n5 n6 n7 n8 n9 n20 n21 n34 n35 n49 n50 n51 n52 n53 n54 n57 n58 n62 n63 va vb vc n f (by omega) F G (by have h9 : kad vc 8 (kad vb 8 (kad va 5 (kst n (kby va 40)))) = F := hF; rw [hst] at h9; exact h9) (by have h9 : kfa vc 8 (kad vb 8 (kad va 5 (kst n (kby va 40)))) (kfa vb 8 (kad va 5 (kst n (kby va 40))) (kfa va 5 (kst n (kby va 40)) (kup f n (kby va 40)))) = G := hG; rw [hst, hup] at h9; exact h9) hC hr hlocks _ _ (kW.sub hw [0, 1] rfl rfl) _ (lv_sub hl [0, 3, 4, 5, 6] rfl)
        · refine lv_aload_n hx hb dX12_feed_93 rfl (lv_at hl 3 rfl) ?_
          refine fg_RX12_7 hC hw 0 rfl rfl dX12_feed_94 ?_
          refine lv_aload_n hx hb dX12_feed_97 rfl (lv_at hl 3 rfl) ?_
          refine fg_RX12_148 hC hw 0 rfl rfl dX12_feed_98 ?_
          refine lv_iload hx hb dX12_feed_101 (lv_at hl 0 rfl) ?_
          refine k_iast hC hw 1 rfl (vp_in_nI hlt (by decide)) dX12_feed_103 (fun H locs hw => ?_)
          obtain ⟨f_291, ef_291⟩ : ∃ g, g = upd f ((nI n) : Int32).toNatClampNeg x_288 := ⟨_, rfl⟩
          have hw : kW γ A [(z, .inr (11, [.int 0, .int (nI n), .ref z2, .int n3, .int n4, .int n5, .int n6, .long n7, .int n8, .int n9, .ref z10, .ref z11, .ref z12, .ref z13, .ref z14, .ref z15, .ref z16, .ref z17, .ref z18, .ref z19, .int n20, .int n21, .ref z22, .ref z23, .ref z24, .ref z25, .ref z26, .ref z27, .ref z28, .ref z29, .ref z30, .ref z31, .ref z32, .ref z33, .int n34, .long n35, .ref z36, .ref z37, .ref z38, .ref z39, .ref z40, .ref z41, .ref z42, .ref z43, .ref z44, .ref z45, .ref z46, .ref z47, .ref z48, .int n49, .int n50, .int n51, .int n52, .int n53, .int n54, .ref z55, .ref z56, .int n57, .int n58, .ref z59, .ref z60, .ref z61, .int n62, .long n63])), (z2, .inl (γ.2.1 0, 1000, .inl f_291))] s H locs := by rw [ef_291]; exact hw
          refine lv_aload_n hx hb dX12_feed_104 rfl (lv_at hl 3 rfl) ?_
          refine lv_dup hx hb dX12_feed_105 rfl ?_
          refine fg_RX12_148 hC hw 0 rfl rfl dX12_feed_106 ?_
          refine lv_iconst (v := 1) hx hb dX12_feed_109 (by decide) ?_
          refine lv_iadd hx hb dX12_feed_110 ?_
          refine lv_topi (fun x_292 ex_292 => ?_)
          obtain rfl : x_292 = (nI (n + 1)) := ex_292.trans (nI_1 n)
          refine fs_RX12_148 hC hw 0 rfl rfl rfl (Nat.le_of_ble_eq_true rfl) dX12_feed_111 (fun H locs hw => ?_)
          have hw : kW γ A [(z, .inr (11, [.int 0, .int (nI (n + 1)), .ref z2, .int n3, .int n4, .int n5, .int n6, .long n7, .int n8, .int n9, .ref z10, .ref z11, .ref z12, .ref z13, .ref z14, .ref z15, .ref z16, .ref z17, .ref z18, .ref z19, .int n20, .int n21, .ref z22, .ref z23, .ref z24, .ref z25, .ref z26, .ref z27, .ref z28, .ref z29, .ref z30, .ref z31, .ref z32, .ref z33, .int n34, .long n35, .ref z36, .ref z37, .ref z38, .ref z39, .ref z40, .ref z41, .ref z42, .ref z43, .ref z44, .ref z45, .ref z46, .ref z47, .ref z48, .int n49, .int n50, .int n51, .int n52, .int n53, .int n54, .ref z55, .ref z56, .int n57, .int n58, .ref z59, .ref z60, .ref z61, .int n62, .long n63])), (z2, .inl (γ.2.1 0, 1000, .inl f_291))] s H locs := hw
          refine lv_iinc (v := 3) (lv' := [(7, .int 3), (10, .int x_288), (8, .long va), (0, .ref z), (1, .long va), (3, .long vb), (5, .long vc)]) hx hb dX12_feed_114 hl (k := 2) rfl (by decide) (by decide) rfl (fun ls hl => ?_)
          refine lv_goto (tgt := 8) hx hb dX12_feed_117 (by decide) ?_
          have hst : kst n (kby va 40) = (n + 1) := by rw [← hk]; exact (by first | exact kst_full hfull | exact kst_a c76 hlt | exact kst_b c83 c90 hlt | exact kst_lo c76 c83 | exact kst_hi c76 c90)
          have hup : kup f n (kby va 40) = f_291 := by rw [← hk, ef_291, nI_clamp (by omega)]; exact kup_y (by first | exact kok_a c76 | exact kok_b c83 c90) hlt
          exact mf_3 z z2 z10 z11 z12 z13 z14 z15 z16 z17 z18 z19 z22 z23 z24 z25 z26 z27 z28 z29 z30 z31 z32 z33 z36 z37 z38 z39 z40 z41 z42 z43 z44 z45 z46 z47 z48 z55 z56 z59 z60 z61 n3 n4 n5 n6 n7 n8 n9 n20 n21 n34 n35 n49 n50 n51 n52 n53 n54 n57 n58 n62 n63 va vb vc (n + 1) f_291 (by omega) F G (by have h9 : kad vc 8 (kad vb 8 (kad va 5 (kst n (kby va 40)))) = F := hF; rw [hst] at h9; exact h9) (by have h9 : kfa vc 8 (kad vb 8 (kad va 5 (kst n (kby va 40)))) (kfa vb 8 (kad va 5 (kst n (kby va 40))) (kfa va 5 (kst n (kby va 40)) (kup f n (kby va 40)))) = G := hG; rw [hst, hup] at h9; exact h9) hC hr hlocks _ _ (kW.sub hw [0, 1] rfl rfl) _ (lv_sub hl [0, 3, 4, 5, 6] rfl)

set_option maxHeartbeats 4000000 in
set_option maxRecDepth 100000 in
theorem mf_1 {γ : kΓ} {l : Launch} {p : Program} {e : Env} {s : State} {m : MethodId} {below : List Frame} {meth : Method} {c : Code} {A : Nat → Prop} (z : Nat) (z2 : Nat) (z10 : Nat) (z11 : Nat) (z12 : Nat) (z13 : Nat) (z14 : Nat) (z15 : Nat) (z16 : Nat) (z17 : Nat) (z18 : Nat) (z19 : Nat) (z22 : Nat) (z23 : Nat) (z24 : Nat) (z25 : Nat) (z26 : Nat) (z27 : Nat) (z28 : Nat) (z29 : Nat) (z30 : Nat) (z31 : Nat) (z32 : Nat) (z33 : Nat) (z36 : Nat) (z37 : Nat) (z38 : Nat) (z39 : Nat) (z40 : Nat) (z41 : Nat) (z42 : Nat) (z43 : Nat) (z44 : Nat) (z45 : Nat) (z46 : Nat) (z47 : Nat) (z48 : Nat) (z55 : Nat) (z56 : Nat) (z59 : Nat) (z60 : Nat) (z61 : Nat) (n3 : Int32) (n4 : Int32) (n5 : Int32) (n6 : Int32) (n7 : Int64) (n8 : Int32) (n9 : Int32) (n20 : Int32) (n21 : Int32) (n34 : Int32) (n35 : Int64) (n49 : Int32) (n50 : Int32) (n51 : Int32) (n52 : Int32) (n53 : Int32) (n54 : Int32) (n57 : Int32) (n58 : Int32) (n62 : Int32) (n63 : Int64) (va : Int64) (vb : Int64) (vc : Int64) (n : Nat) (f : Nat → Int32) (hn : n ≤ 1000) (F : Nat) (G : Nat → Int32) (hF : kad vc 8 (kad vb 8 (kad va 7 n)) = F) (hG : kfa vc 8 (kad vb 8 (kad va 7 n)) (kfa vb 8 (kad va 7 n) (kfa va 7 n f)) = G) (hC : kC γ p s m [.ref z, .long va, .long vb, .long vc].toArray c cX12_feed 11 RX12 A) (hr : meth.sig.returnType = (some .int)) (hlocks : meth.locks = false) (H : Heap) (locs : List Loc) (hw : kW γ A [(z, .inr (11, [.int 0, .int (nI n), .ref z2, .int n3, .int n4, .int n5, .int n6, .long n7, .int n8, .int n9, .ref z10, .ref z11, .ref z12, .ref z13, .ref z14, .ref z15, .ref z16, .ref z17, .ref z18, .ref z19, .int n20, .int n21, .ref z22, .ref z23, .ref z24, .ref z25, .ref z26, .ref z27, .ref z28, .ref z29, .ref z30, .ref z31, .ref z32, .ref z33, .int n34, .long n35, .ref z36, .ref z37, .ref z38, .ref z39, .ref z40, .ref z41, .ref z42, .ref z43, .ref z44, .ref z45, .ref z46, .ref z47, .ref z48, .int n49, .int n50, .int n51, .int n52, .int n53, .int n54, .ref z55, .ref z56, .int n57, .int n58, .ref z59, .ref z60, .ref z61, .int n62, .long n63])), (z2, .inl (γ.2.1 0, 1000, .inl f))] s H locs) (ls : Array Slot) (hl : lv_has ls 11 [(7, .int 1), (0, .ref z), (1, .long va), (3, .long vb), (5, .long vc)]) : W p l e ({ frames := 0, cells := 0, slots := 0, locals := 0 } : Room) s m [.ref z, .long va, .long vb, .long vc].toArray below meth c H locs 0 0 (MQ below (kQ γ A (fun r w1 => r = some (.int (nI F)) ∧ w1 = [(z, .inr (11, [.int 0, .int (nI F), .ref z2, .int n3, .int n4, .int n5, .int n6, .long n7, .int n8, .int n9, .ref z10, .ref z11, .ref z12, .ref z13, .ref z14, .ref z15, .ref z16, .ref z17, .ref z18, .ref z19, .int n20, .int n21, .ref z22, .ref z23, .ref z24, .ref z25, .ref z26, .ref z27, .ref z28, .ref z29, .ref z30, .ref z31, .ref z32, .ref z33, .int n34, .long n35, .ref z36, .ref z37, .ref z38, .ref z39, .ref z40, .ref z41, .ref z42, .ref z43, .ref z44, .ref z45, .ref z46, .ref z47, .ref z48, .int n49, .int n50, .int n51, .int n52, .int n53, .int n54, .ref z55, .ref z56, .int n57, .int n58, .ref z59, .ref z60, .ref z61, .int n62, .long n63])), (z2, .inl (γ.2.1 0, 1000, .inl G))])) [.ref z, .long va, .long vb, .long vc].toArray s 0 0 A) (F0 m 8 ls []) := by
  have hx := hC.1
  have hb := hC.2.1
  refine lv_iload hx hb dX12_feed_8 (lv_at hl 0 rfl) ?_
  refine lv_bipush (v := 24) hx hb dX12_feed_10 (by decide) ?_
  refine lv_icmp_ge (tgt := 120) hx hb dX12_feed_12 (by decide) (fun h => absurd h (by decide)) (fun _ => ?_)
  refine lv_iload hx hb dX12_feed_15 (lv_at hl 0 rfl) ?_
  refine lv_bipush (v := 8) hx hb dX12_feed_17 (by decide) ?_
  refine lv_icmp_ge (tgt := 26) hx hb dX12_feed_19 (by decide) (fun h => absurd h (by decide)) (fun _ => ?_)
  refine lv_lload_n hx hb dX12_feed_22 rfl (lv_at hl 2 rfl) ?_
  refine lv_goto (tgt := 39) hx hb dX12_feed_23 (by decide) ?_
  refine lv_lstore (lv' := [(8, .long va), (7, .int 1), (0, .ref z), (1, .long va), (3, .long vb), (5, .long vc)]) hx hb dX12_feed_39 hl (by decide) rfl (fun ls hl => ?_)
  refine lv_lload hx hb dX12_feed_41 (lv_at hl 0 rfl) ?_
  refine lv_bipush (v := 56) hx hb dX12_feed_43 (by decide) ?_
  refine lv_bipush (v := 8) hx hb dX12_feed_45 (by decide) ?_
  refine lv_iload hx hb dX12_feed_47 (lv_at hl 1 rfl) ?_
  refine lv_bipush (v := 7) hx hb dX12_feed_49 (by decide) ?_
  refine lv_iand hx hb dX12_feed_51 ?_
  refine lv_topi (fun x_293 ex_293 => ?_)
  obtain rfl : x_293 = 1 := ex_293.trans (by decide)
  refine lv_imul hx hb dX12_feed_52 ?_
  refine lv_topi (fun x_294 ex_294 => ?_)
  obtain rfl : x_294 = 8 := ex_294.trans (by decide)
  refine lv_isub hx hb dX12_feed_53 ?_
  refine lv_topi (fun x_295 ex_295 => ?_)
  obtain rfl : x_295 = 48 := ex_295.trans (by decide)
  refine lv_lushr hx hb dX12_feed_54 rfl ?_
  refine lv_topl (fun x_296 ex_296 => ?_)
  refine k_ldc2 hC gw_1389 dX12_feed_55 ?_
  refine lv_land hx hb dX12_feed_58 ?_
  refine lv_topl (fun x_297 ex_297 => ?_)
  refine lv_l2i hx hb dX12_feed_59 rfl ?_
  refine lv_topi (fun x_298 ex_298 => ?_)
  refine lv_istore (lv' := [(10, .int x_298), (8, .long va), (7, .int 1), (0, .ref z), (1, .long va), (3, .long vb), (5, .long vc)]) hx hb dX12_feed_60 hl (by decide) rfl (fun ls hl => ?_)
  have hk : x_298 = kby va 48 := by rw [ex_298, ex_297, k_land, ex_296]; rfl
  refine lv_aload_n hx hb dX12_feed_62 rfl (lv_at hl 3 rfl) ?_
  refine fg_RX12_148 hC hw 0 rfl rfl dX12_feed_63 ?_
  refine lv_sipush (v := 1000) hx hb dX12_feed_66 (by decide) ?_
  refine lv_icmp_ge (tgt := 114) hx hb dX12_feed_69 (by decide) (fun c69 => ?_) (fun c69 => ?_)
  · have hfull : ¬ n < 1000 := fun h9 => absurd c69 (nI_ge h9 (by decide))
    refine lv_iinc (v := 2) (lv' := [(7, .int 2), (10, .int x_298), (8, .long va), (0, .ref z), (1, .long va), (3, .long vb), (5, .long vc)]) hx hb dX12_feed_114 hl (k := 2) rfl (by decide) (by decide) rfl (fun ls hl => ?_)
    refine lv_goto (tgt := 8) hx hb dX12_feed_117 (by decide) ?_
    have hst : kst n (kby va 48) = n := by rw [← hk]; exact (by first | exact kst_full hfull | exact kst_a c76 hlt | exact kst_b c83 c90 hlt | exact kst_lo c76 c83 | exact kst_hi c76 c90)
    have hup : kup f n (kby va 48) = f := by rw [← hk]; exact (by first | exact kup_full hfull | exact kup_lo c76 c83 | exact kup_hi c76 c90)
    exact mf_2 z z2 z10 z11 z12 z13 z14 z15 z16 z17 z18 z19 z22 z23 z24 z25 z26 z27 z28 z29 z30 z31 z32 z33 z36 z37 z38 z39 z40 z41 z42 z43 z44 z45 z46 z47 z48 z55 z56 z59 z60 z61 n3 n4 n5 n6 n7 n8 n9 n20 n21 n34 n35 n49 n50 n51 n52 n53 n54 n57 n58 n62 n63 va vb vc n f (by omega) F G (by have h9 : kad vc 8 (kad vb 8 (kad va 6 (kst n (kby va 48)))) = F := hF; rw [hst] at h9; exact h9) (by have h9 : kfa vc 8 (kad vb 8 (kad va 6 (kst n (kby va 48)))) (kfa vb 8 (kad va 6 (kst n (kby va 48))) (kfa va 6 (kst n (kby va 48)) (kup f n (kby va 48)))) = G := hG; rw [hst, hup] at h9; exact h9) hC hr hlocks _ _ (kW.sub hw [0, 1] rfl rfl) _ (lv_sub hl [0, 3, 4, 5, 6] rfl)
  · have hlt : n < 1000 := by rcases Nat.lt_or_ge n 1000 with h9 | h9; exact h9; exact absurd (nI_le h9 (by omega)) c69
    refine lv_iload hx hb dX12_feed_72 (lv_at hl 0 rfl) ?_
    refine lv_bipush (v := 10) hx hb dX12_feed_74 (by decide) ?_
    refine lv_icmp_eq (tgt := 93) hx hb dX12_feed_76 (by decide) (fun c76 => ?_) (fun c76 => ?_)
    · refine lv_aload_n hx hb dX12_feed_93 rfl (lv_at hl 3 rfl) ?_
      refine fg_RX12_7 hC hw 0 rfl rfl dX12_feed_94 ?_
      refine lv_aload_n hx hb dX12_feed_97 rfl (lv_at hl 3 rfl) ?_
      refine fg_RX12_148 hC hw 0 rfl rfl dX12_feed_98 ?_
      refine lv_iload hx hb dX12_feed_101 (lv_at hl 0 rfl) ?_
      refine k_iast hC hw 1 rfl (vp_in_nI hlt (by decide)) dX12_feed_103 (fun H locs hw => ?_)
      obtain ⟨f_299, ef_299⟩ : ∃ g, g = upd f ((nI n) : Int32).toNatClampNeg x_298 := ⟨_, rfl⟩
      have hw : kW γ A [(z, .inr (11, [.int 0, .int (nI n), .ref z2, .int n3, .int n4, .int n5, .int n6, .long n7, .int n8, .int n9, .ref z10, .ref z11, .ref z12, .ref z13, .ref z14, .ref z15, .ref z16, .ref z17, .ref z18, .ref z19, .int n20, .int n21, .ref z22, .ref z23, .ref z24, .ref z25, .ref z26, .ref z27, .ref z28, .ref z29, .ref z30, .ref z31, .ref z32, .ref z33, .int n34, .long n35, .ref z36, .ref z37, .ref z38, .ref z39, .ref z40, .ref z41, .ref z42, .ref z43, .ref z44, .ref z45, .ref z46, .ref z47, .ref z48, .int n49, .int n50, .int n51, .int n52, .int n53, .int n54, .ref z55, .ref z56, .int n57, .int n58, .ref z59, .ref z60, .ref z61, .int n62, .long n63])), (z2, .inl (γ.2.1 0, 1000, .inl f_299))] s H locs := by rw [ef_299]; exact hw
      refine lv_aload_n hx hb dX12_feed_104 rfl (lv_at hl 3 rfl) ?_
      refine lv_dup hx hb dX12_feed_105 rfl ?_
      refine fg_RX12_148 hC hw 0 rfl rfl dX12_feed_106 ?_
      refine lv_iconst (v := 1) hx hb dX12_feed_109 (by decide) ?_
      refine lv_iadd hx hb dX12_feed_110 ?_
      refine lv_topi (fun x_300 ex_300 => ?_)
      obtain rfl : x_300 = (nI (n + 1)) := ex_300.trans (nI_1 n)
      refine fs_RX12_148 hC hw 0 rfl rfl rfl (Nat.le_of_ble_eq_true rfl) dX12_feed_111 (fun H locs hw => ?_)
      have hw : kW γ A [(z, .inr (11, [.int 0, .int (nI (n + 1)), .ref z2, .int n3, .int n4, .int n5, .int n6, .long n7, .int n8, .int n9, .ref z10, .ref z11, .ref z12, .ref z13, .ref z14, .ref z15, .ref z16, .ref z17, .ref z18, .ref z19, .int n20, .int n21, .ref z22, .ref z23, .ref z24, .ref z25, .ref z26, .ref z27, .ref z28, .ref z29, .ref z30, .ref z31, .ref z32, .ref z33, .int n34, .long n35, .ref z36, .ref z37, .ref z38, .ref z39, .ref z40, .ref z41, .ref z42, .ref z43, .ref z44, .ref z45, .ref z46, .ref z47, .ref z48, .int n49, .int n50, .int n51, .int n52, .int n53, .int n54, .ref z55, .ref z56, .int n57, .int n58, .ref z59, .ref z60, .ref z61, .int n62, .long n63])), (z2, .inl (γ.2.1 0, 1000, .inl f_299))] s H locs := hw
      refine lv_iinc (v := 2) (lv' := [(7, .int 2), (10, .int x_298), (8, .long va), (0, .ref z), (1, .long va), (3, .long vb), (5, .long vc)]) hx hb dX12_feed_114 hl (k := 2) rfl (by decide) (by decide) rfl (fun ls hl => ?_)
      refine lv_goto (tgt := 8) hx hb dX12_feed_117 (by decide) ?_
      have hst : kst n (kby va 48) = (n + 1) := by rw [← hk]; exact (by first | exact kst_full hfull | exact kst_a c76 hlt | exact kst_b c83 c90 hlt | exact kst_lo c76 c83 | exact kst_hi c76 c90)
      have hup : kup f n (kby va 48) = f_299 := by rw [← hk, ef_299, nI_clamp (by omega)]; exact kup_y (by first | exact kok_a c76 | exact kok_b c83 c90) hlt
      exact mf_2 z z2 z10 z11 z12 z13 z14 z15 z16 z17 z18 z19 z22 z23 z24 z25 z26 z27 z28 z29 z30 z31 z32 z33 z36 z37 z38 z39 z40 z41 z42 z43 z44 z45 z46 z47 z48 z55 z56 z59 z60 z61 n3 n4 n5 n6 n7 n8 n9 n20 n21 n34 n35 n49 n50 n51 n52 n53 n54 n57 n58 n62 n63 va vb vc (n + 1) f_299 (by omega) F G (by have h9 : kad vc 8 (kad vb 8 (kad va 6 (kst n (kby va 48)))) = F := hF; rw [hst] at h9; exact h9) (by have h9 : kfa vc 8 (kad vb 8 (kad va 6 (kst n (kby va 48)))) (kfa vb 8 (kad va 6 (kst n (kby va 48))) (kfa va 6 (kst n (kby va 48)) (kup f n (kby va 48)))) = G := hG; rw [hst, hup] at h9; exact h9) hC hr hlocks _ _ (kW.sub hw [0, 1] rfl rfl) _ (lv_sub hl [0, 3, 4, 5, 6] rfl)
    · refine lv_iload hx hb dX12_feed_79 (lv_at hl 0 rfl) ?_
      refine lv_bipush (v := 32) hx hb dX12_feed_81 (by decide) ?_
      refine lv_icmp_lt (tgt := 114) hx hb dX12_feed_83 (by decide) (fun c83 => ?_) (fun c83 => ?_)
      · refine lv_iinc (v := 2) (lv' := [(7, .int 2), (10, .int x_298), (8, .long va), (0, .ref z), (1, .long va), (3, .long vb), (5, .long vc)]) hx hb dX12_feed_114 hl (k := 2) rfl (by decide) (by decide) rfl (fun ls hl => ?_)
        refine lv_goto (tgt := 8) hx hb dX12_feed_117 (by decide) ?_
        have hst : kst n (kby va 48) = n := by rw [← hk]; exact (by first | exact kst_full hfull | exact kst_a c76 hlt | exact kst_b c83 c90 hlt | exact kst_lo c76 c83 | exact kst_hi c76 c90)
        have hup : kup f n (kby va 48) = f := by rw [← hk]; exact (by first | exact kup_full hfull | exact kup_lo c76 c83 | exact kup_hi c76 c90)
        exact mf_2 z z2 z10 z11 z12 z13 z14 z15 z16 z17 z18 z19 z22 z23 z24 z25 z26 z27 z28 z29 z30 z31 z32 z33 z36 z37 z38 z39 z40 z41 z42 z43 z44 z45 z46 z47 z48 z55 z56 z59 z60 z61 n3 n4 n5 n6 n7 n8 n9 n20 n21 n34 n35 n49 n50 n51 n52 n53 n54 n57 n58 n62 n63 va vb vc n f (by omega) F G (by have h9 : kad vc 8 (kad vb 8 (kad va 6 (kst n (kby va 48)))) = F := hF; rw [hst] at h9; exact h9) (by have h9 : kfa vc 8 (kad vb 8 (kad va 6 (kst n (kby va 48)))) (kfa vb 8 (kad va 6 (kst n (kby va 48))) (kfa va 6 (kst n (kby va 48)) (kup f n (kby va 48)))) = G := hG; rw [hst, hup] at h9; exact h9) hC hr hlocks _ _ (kW.sub hw [0, 1] rfl rfl) _ (lv_sub hl [0, 3, 4, 5, 6] rfl)
      · refine lv_iload hx hb dX12_feed_86 (lv_at hl 0 rfl) ?_
        refine lv_bipush (v := 126) hx hb dX12_feed_88 (by decide) ?_
        refine lv_icmp_gt (tgt := 114) hx hb dX12_feed_90 (by decide) (fun c90 => ?_) (fun c90 => ?_)
        · refine lv_iinc (v := 2) (lv' := [(7, .int 2), (10, .int x_298), (8, .long va), (0, .ref z), (1, .long va), (3, .long vb), (5, .long vc)]) hx hb dX12_feed_114 hl (k := 2) rfl (by decide) (by decide) rfl (fun ls hl => ?_)
          refine lv_goto (tgt := 8) hx hb dX12_feed_117 (by decide) ?_
          have hst : kst n (kby va 48) = n := by rw [← hk]; exact (by first | exact kst_full hfull | exact kst_a c76 hlt | exact kst_b c83 c90 hlt | exact kst_lo c76 c83 | exact kst_hi c76 c90)
          have hup : kup f n (kby va 48) = f := by rw [← hk]; exact (by first | exact kup_full hfull | exact kup_lo c76 c83 | exact kup_hi c76 c90)
          exact mf_2 z z2 z10 z11 z12 z13 z14 z15 z16 z17 z18 z19 z22 z23 z24 z25 z26 z27 z28 z29 z30 z31 z32 z33 z36 z37 z38 z39 z40 z41 z42 z43 z44 z45 z46 z47 z48 z55 z56 z59 z60 z61 n3 n4 n5 n6 n7 n8 n9 n20 n21 n34 n35 n49 n50 n51 n52 n53 n54 n57 n58 n62 n63 va vb vc n f (by omega) F G (by have h9 : kad vc 8 (kad vb 8 (kad va 6 (kst n (kby va 48)))) = F := hF; rw [hst] at h9; exact h9) (by have h9 : kfa vc 8 (kad vb 8 (kad va 6 (kst n (kby va 48)))) (kfa vb 8 (kad va 6 (kst n (kby va 48))) (kfa va 6 (kst n (kby va 48)) (kup f n (kby va 48)))) = G := hG; rw [hst, hup] at h9; exact h9) hC hr hlocks _ _ (kW.sub hw [0, 1] rfl rfl) _ (lv_sub hl [0, 3, 4, 5, 6] rfl)
        · refine lv_aload_n hx hb dX12_feed_93 rfl (lv_at hl 3 rfl) ?_
          refine fg_RX12_7 hC hw 0 rfl rfl dX12_feed_94 ?_
          refine lv_aload_n hx hb dX12_feed_97 rfl (lv_at hl 3 rfl) ?_
          refine fg_RX12_148 hC hw 0 rfl rfl dX12_feed_98 ?_
          refine lv_iload hx hb dX12_feed_101 (lv_at hl 0 rfl) ?_
          refine k_iast hC hw 1 rfl (vp_in_nI hlt (by decide)) dX12_feed_103 (fun H locs hw => ?_)
          obtain ⟨f_301, ef_301⟩ : ∃ g, g = upd f ((nI n) : Int32).toNatClampNeg x_298 := ⟨_, rfl⟩
          have hw : kW γ A [(z, .inr (11, [.int 0, .int (nI n), .ref z2, .int n3, .int n4, .int n5, .int n6, .long n7, .int n8, .int n9, .ref z10, .ref z11, .ref z12, .ref z13, .ref z14, .ref z15, .ref z16, .ref z17, .ref z18, .ref z19, .int n20, .int n21, .ref z22, .ref z23, .ref z24, .ref z25, .ref z26, .ref z27, .ref z28, .ref z29, .ref z30, .ref z31, .ref z32, .ref z33, .int n34, .long n35, .ref z36, .ref z37, .ref z38, .ref z39, .ref z40, .ref z41, .ref z42, .ref z43, .ref z44, .ref z45, .ref z46, .ref z47, .ref z48, .int n49, .int n50, .int n51, .int n52, .int n53, .int n54, .ref z55, .ref z56, .int n57, .int n58, .ref z59, .ref z60, .ref z61, .int n62, .long n63])), (z2, .inl (γ.2.1 0, 1000, .inl f_301))] s H locs := by rw [ef_301]; exact hw
          refine lv_aload_n hx hb dX12_feed_104 rfl (lv_at hl 3 rfl) ?_
          refine lv_dup hx hb dX12_feed_105 rfl ?_
          refine fg_RX12_148 hC hw 0 rfl rfl dX12_feed_106 ?_
          refine lv_iconst (v := 1) hx hb dX12_feed_109 (by decide) ?_
          refine lv_iadd hx hb dX12_feed_110 ?_
          refine lv_topi (fun x_302 ex_302 => ?_)
          obtain rfl : x_302 = (nI (n + 1)) := ex_302.trans (nI_1 n)
          refine fs_RX12_148 hC hw 0 rfl rfl rfl (Nat.le_of_ble_eq_true rfl) dX12_feed_111 (fun H locs hw => ?_)
          have hw : kW γ A [(z, .inr (11, [.int 0, .int (nI (n + 1)), .ref z2, .int n3, .int n4, .int n5, .int n6, .long n7, .int n8, .int n9, .ref z10, .ref z11, .ref z12, .ref z13, .ref z14, .ref z15, .ref z16, .ref z17, .ref z18, .ref z19, .int n20, .int n21, .ref z22, .ref z23, .ref z24, .ref z25, .ref z26, .ref z27, .ref z28, .ref z29, .ref z30, .ref z31, .ref z32, .ref z33, .int n34, .long n35, .ref z36, .ref z37, .ref z38, .ref z39, .ref z40, .ref z41, .ref z42, .ref z43, .ref z44, .ref z45, .ref z46, .ref z47, .ref z48, .int n49, .int n50, .int n51, .int n52, .int n53, .int n54, .ref z55, .ref z56, .int n57, .int n58, .ref z59, .ref z60, .ref z61, .int n62, .long n63])), (z2, .inl (γ.2.1 0, 1000, .inl f_301))] s H locs := hw
          refine lv_iinc (v := 2) (lv' := [(7, .int 2), (10, .int x_298), (8, .long va), (0, .ref z), (1, .long va), (3, .long vb), (5, .long vc)]) hx hb dX12_feed_114 hl (k := 2) rfl (by decide) (by decide) rfl (fun ls hl => ?_)
          refine lv_goto (tgt := 8) hx hb dX12_feed_117 (by decide) ?_
          have hst : kst n (kby va 48) = (n + 1) := by rw [← hk]; exact (by first | exact kst_full hfull | exact kst_a c76 hlt | exact kst_b c83 c90 hlt | exact kst_lo c76 c83 | exact kst_hi c76 c90)
          have hup : kup f n (kby va 48) = f_301 := by rw [← hk, ef_301, nI_clamp (by omega)]; exact kup_y (by first | exact kok_a c76 | exact kok_b c83 c90) hlt
          exact mf_2 z z2 z10 z11 z12 z13 z14 z15 z16 z17 z18 z19 z22 z23 z24 z25 z26 z27 z28 z29 z30 z31 z32 z33 z36 z37 z38 z39 z40 z41 z42 z43 z44 z45 z46 z47 z48 z55 z56 z59 z60 z61 n3 n4 n5 n6 n7 n8 n9 n20 n21 n34 n35 n49 n50 n51 n52 n53 n54 n57 n58 n62 n63 va vb vc (n + 1) f_301 (by omega) F G (by have h9 : kad vc 8 (kad vb 8 (kad va 6 (kst n (kby va 48)))) = F := hF; rw [hst] at h9; exact h9) (by have h9 : kfa vc 8 (kad vb 8 (kad va 6 (kst n (kby va 48)))) (kfa vb 8 (kad va 6 (kst n (kby va 48))) (kfa va 6 (kst n (kby va 48)) (kup f n (kby va 48)))) = G := hG; rw [hst, hup] at h9; exact h9) hC hr hlocks _ _ (kW.sub hw [0, 1] rfl rfl) _ (lv_sub hl [0, 3, 4, 5, 6] rfl)

set_option maxHeartbeats 4000000 in
set_option maxRecDepth 100000 in
theorem mf_0 {γ : kΓ} {l : Launch} {p : Program} {e : Env} {s : State} {m : MethodId} {below : List Frame} {meth : Method} {c : Code} {A : Nat → Prop} (z : Nat) (z2 : Nat) (z10 : Nat) (z11 : Nat) (z12 : Nat) (z13 : Nat) (z14 : Nat) (z15 : Nat) (z16 : Nat) (z17 : Nat) (z18 : Nat) (z19 : Nat) (z22 : Nat) (z23 : Nat) (z24 : Nat) (z25 : Nat) (z26 : Nat) (z27 : Nat) (z28 : Nat) (z29 : Nat) (z30 : Nat) (z31 : Nat) (z32 : Nat) (z33 : Nat) (z36 : Nat) (z37 : Nat) (z38 : Nat) (z39 : Nat) (z40 : Nat) (z41 : Nat) (z42 : Nat) (z43 : Nat) (z44 : Nat) (z45 : Nat) (z46 : Nat) (z47 : Nat) (z48 : Nat) (z55 : Nat) (z56 : Nat) (z59 : Nat) (z60 : Nat) (z61 : Nat) (n3 : Int32) (n4 : Int32) (n5 : Int32) (n6 : Int32) (n7 : Int64) (n8 : Int32) (n9 : Int32) (n20 : Int32) (n21 : Int32) (n34 : Int32) (n35 : Int64) (n49 : Int32) (n50 : Int32) (n51 : Int32) (n52 : Int32) (n53 : Int32) (n54 : Int32) (n57 : Int32) (n58 : Int32) (n62 : Int32) (n63 : Int64) (va : Int64) (vb : Int64) (vc : Int64) (n : Nat) (f : Nat → Int32) (hn : n ≤ 1000) (F : Nat) (G : Nat → Int32) (hF : kad vc 8 (kad vb 8 (kad va 8 n)) = F) (hG : kfa vc 8 (kad vb 8 (kad va 8 n)) (kfa vb 8 (kad va 8 n) (kfa va 8 n f)) = G) (hC : kC γ p s m [.ref z, .long va, .long vb, .long vc].toArray c cX12_feed 11 RX12 A) (hr : meth.sig.returnType = (some .int)) (hlocks : meth.locks = false) (H : Heap) (locs : List Loc) (hw : kW γ A [(z, .inr (11, [.int 0, .int (nI n), .ref z2, .int n3, .int n4, .int n5, .int n6, .long n7, .int n8, .int n9, .ref z10, .ref z11, .ref z12, .ref z13, .ref z14, .ref z15, .ref z16, .ref z17, .ref z18, .ref z19, .int n20, .int n21, .ref z22, .ref z23, .ref z24, .ref z25, .ref z26, .ref z27, .ref z28, .ref z29, .ref z30, .ref z31, .ref z32, .ref z33, .int n34, .long n35, .ref z36, .ref z37, .ref z38, .ref z39, .ref z40, .ref z41, .ref z42, .ref z43, .ref z44, .ref z45, .ref z46, .ref z47, .ref z48, .int n49, .int n50, .int n51, .int n52, .int n53, .int n54, .ref z55, .ref z56, .int n57, .int n58, .ref z59, .ref z60, .ref z61, .int n62, .long n63])), (z2, .inl (γ.2.1 0, 1000, .inl f))] s H locs) (ls : Array Slot) (hl : lv_has ls 11 [(7, .int 0), (0, .ref z), (1, .long va), (3, .long vb), (5, .long vc)]) : W p l e ({ frames := 0, cells := 0, slots := 0, locals := 0 } : Room) s m [.ref z, .long va, .long vb, .long vc].toArray below meth c H locs 0 0 (MQ below (kQ γ A (fun r w1 => r = some (.int (nI F)) ∧ w1 = [(z, .inr (11, [.int 0, .int (nI F), .ref z2, .int n3, .int n4, .int n5, .int n6, .long n7, .int n8, .int n9, .ref z10, .ref z11, .ref z12, .ref z13, .ref z14, .ref z15, .ref z16, .ref z17, .ref z18, .ref z19, .int n20, .int n21, .ref z22, .ref z23, .ref z24, .ref z25, .ref z26, .ref z27, .ref z28, .ref z29, .ref z30, .ref z31, .ref z32, .ref z33, .int n34, .long n35, .ref z36, .ref z37, .ref z38, .ref z39, .ref z40, .ref z41, .ref z42, .ref z43, .ref z44, .ref z45, .ref z46, .ref z47, .ref z48, .int n49, .int n50, .int n51, .int n52, .int n53, .int n54, .ref z55, .ref z56, .int n57, .int n58, .ref z59, .ref z60, .ref z61, .int n62, .long n63])), (z2, .inl (γ.2.1 0, 1000, .inl G))])) [.ref z, .long va, .long vb, .long vc].toArray s 0 0 A) (F0 m 8 ls []) := by
  have hx := hC.1
  have hb := hC.2.1
  refine lv_iload hx hb dX12_feed_8 (lv_at hl 0 rfl) ?_
  refine lv_bipush (v := 24) hx hb dX12_feed_10 (by decide) ?_
  refine lv_icmp_ge (tgt := 120) hx hb dX12_feed_12 (by decide) (fun h => absurd h (by decide)) (fun _ => ?_)
  refine lv_iload hx hb dX12_feed_15 (lv_at hl 0 rfl) ?_
  refine lv_bipush (v := 8) hx hb dX12_feed_17 (by decide) ?_
  refine lv_icmp_ge (tgt := 26) hx hb dX12_feed_19 (by decide) (fun h => absurd h (by decide)) (fun _ => ?_)
  refine lv_lload_n hx hb dX12_feed_22 rfl (lv_at hl 2 rfl) ?_
  refine lv_goto (tgt := 39) hx hb dX12_feed_23 (by decide) ?_
  refine lv_lstore (lv' := [(8, .long va), (7, .int 0), (0, .ref z), (1, .long va), (3, .long vb), (5, .long vc)]) hx hb dX12_feed_39 hl (by decide) rfl (fun ls hl => ?_)
  refine lv_lload hx hb dX12_feed_41 (lv_at hl 0 rfl) ?_
  refine lv_bipush (v := 56) hx hb dX12_feed_43 (by decide) ?_
  refine lv_bipush (v := 8) hx hb dX12_feed_45 (by decide) ?_
  refine lv_iload hx hb dX12_feed_47 (lv_at hl 1 rfl) ?_
  refine lv_bipush (v := 7) hx hb dX12_feed_49 (by decide) ?_
  refine lv_iand hx hb dX12_feed_51 ?_
  refine lv_topi (fun x_303 ex_303 => ?_)
  obtain rfl : x_303 = 0 := ex_303.trans (by decide)
  refine lv_imul hx hb dX12_feed_52 ?_
  refine lv_topi (fun x_304 ex_304 => ?_)
  obtain rfl : x_304 = 0 := ex_304.trans (by decide)
  refine lv_isub hx hb dX12_feed_53 ?_
  refine lv_topi (fun x_305 ex_305 => ?_)
  obtain rfl : x_305 = 56 := ex_305.trans (by decide)
  refine lv_lushr hx hb dX12_feed_54 rfl ?_
  refine lv_topl (fun x_306 ex_306 => ?_)
  refine k_ldc2 hC gw_1389 dX12_feed_55 ?_
  refine lv_land hx hb dX12_feed_58 ?_
  refine lv_topl (fun x_307 ex_307 => ?_)
  refine lv_l2i hx hb dX12_feed_59 rfl ?_
  refine lv_topi (fun x_308 ex_308 => ?_)
  refine lv_istore (lv' := [(10, .int x_308), (8, .long va), (7, .int 0), (0, .ref z), (1, .long va), (3, .long vb), (5, .long vc)]) hx hb dX12_feed_60 hl (by decide) rfl (fun ls hl => ?_)
  have hk : x_308 = kby va 56 := by rw [ex_308, ex_307, k_land, ex_306]; rfl
  refine lv_aload_n hx hb dX12_feed_62 rfl (lv_at hl 3 rfl) ?_
  refine fg_RX12_148 hC hw 0 rfl rfl dX12_feed_63 ?_
  refine lv_sipush (v := 1000) hx hb dX12_feed_66 (by decide) ?_
  refine lv_icmp_ge (tgt := 114) hx hb dX12_feed_69 (by decide) (fun c69 => ?_) (fun c69 => ?_)
  · have hfull : ¬ n < 1000 := fun h9 => absurd c69 (nI_ge h9 (by decide))
    refine lv_iinc (v := 1) (lv' := [(7, .int 1), (10, .int x_308), (8, .long va), (0, .ref z), (1, .long va), (3, .long vb), (5, .long vc)]) hx hb dX12_feed_114 hl (k := 2) rfl (by decide) (by decide) rfl (fun ls hl => ?_)
    refine lv_goto (tgt := 8) hx hb dX12_feed_117 (by decide) ?_
    have hst : kst n (kby va 56) = n := by rw [← hk]; exact (by first | exact kst_full hfull | exact kst_a c76 hlt | exact kst_b c83 c90 hlt | exact kst_lo c76 c83 | exact kst_hi c76 c90)
    have hup : kup f n (kby va 56) = f := by rw [← hk]; exact (by first | exact kup_full hfull | exact kup_lo c76 c83 | exact kup_hi c76 c90)
    exact mf_1 z z2 z10 z11 z12 z13 z14 z15 z16 z17 z18 z19 z22 z23 z24 z25 z26 z27 z28 z29 z30 z31 z32 z33 z36 z37 z38 z39 z40 z41 z42 z43 z44 z45 z46 z47 z48 z55 z56 z59 z60 z61 n3 n4 n5 n6 n7 n8 n9 n20 n21 n34 n35 n49 n50 n51 n52 n53 n54 n57 n58 n62 n63 va vb vc n f (by omega) F G (by have h9 : kad vc 8 (kad vb 8 (kad va 7 (kst n (kby va 56)))) = F := hF; rw [hst] at h9; exact h9) (by have h9 : kfa vc 8 (kad vb 8 (kad va 7 (kst n (kby va 56)))) (kfa vb 8 (kad va 7 (kst n (kby va 56))) (kfa va 7 (kst n (kby va 56)) (kup f n (kby va 56)))) = G := hG; rw [hst, hup] at h9; exact h9) hC hr hlocks _ _ (kW.sub hw [0, 1] rfl rfl) _ (lv_sub hl [0, 3, 4, 5, 6] rfl)
  · have hlt : n < 1000 := by rcases Nat.lt_or_ge n 1000 with h9 | h9; exact h9; exact absurd (nI_le h9 (by omega)) c69
    refine lv_iload hx hb dX12_feed_72 (lv_at hl 0 rfl) ?_
    refine lv_bipush (v := 10) hx hb dX12_feed_74 (by decide) ?_
    refine lv_icmp_eq (tgt := 93) hx hb dX12_feed_76 (by decide) (fun c76 => ?_) (fun c76 => ?_)
    · refine lv_aload_n hx hb dX12_feed_93 rfl (lv_at hl 3 rfl) ?_
      refine fg_RX12_7 hC hw 0 rfl rfl dX12_feed_94 ?_
      refine lv_aload_n hx hb dX12_feed_97 rfl (lv_at hl 3 rfl) ?_
      refine fg_RX12_148 hC hw 0 rfl rfl dX12_feed_98 ?_
      refine lv_iload hx hb dX12_feed_101 (lv_at hl 0 rfl) ?_
      refine k_iast hC hw 1 rfl (vp_in_nI hlt (by decide)) dX12_feed_103 (fun H locs hw => ?_)
      obtain ⟨f_309, ef_309⟩ : ∃ g, g = upd f ((nI n) : Int32).toNatClampNeg x_308 := ⟨_, rfl⟩
      have hw : kW γ A [(z, .inr (11, [.int 0, .int (nI n), .ref z2, .int n3, .int n4, .int n5, .int n6, .long n7, .int n8, .int n9, .ref z10, .ref z11, .ref z12, .ref z13, .ref z14, .ref z15, .ref z16, .ref z17, .ref z18, .ref z19, .int n20, .int n21, .ref z22, .ref z23, .ref z24, .ref z25, .ref z26, .ref z27, .ref z28, .ref z29, .ref z30, .ref z31, .ref z32, .ref z33, .int n34, .long n35, .ref z36, .ref z37, .ref z38, .ref z39, .ref z40, .ref z41, .ref z42, .ref z43, .ref z44, .ref z45, .ref z46, .ref z47, .ref z48, .int n49, .int n50, .int n51, .int n52, .int n53, .int n54, .ref z55, .ref z56, .int n57, .int n58, .ref z59, .ref z60, .ref z61, .int n62, .long n63])), (z2, .inl (γ.2.1 0, 1000, .inl f_309))] s H locs := by rw [ef_309]; exact hw
      refine lv_aload_n hx hb dX12_feed_104 rfl (lv_at hl 3 rfl) ?_
      refine lv_dup hx hb dX12_feed_105 rfl ?_
      refine fg_RX12_148 hC hw 0 rfl rfl dX12_feed_106 ?_
      refine lv_iconst (v := 1) hx hb dX12_feed_109 (by decide) ?_
      refine lv_iadd hx hb dX12_feed_110 ?_
      refine lv_topi (fun x_310 ex_310 => ?_)
      obtain rfl : x_310 = (nI (n + 1)) := ex_310.trans (nI_1 n)
      refine fs_RX12_148 hC hw 0 rfl rfl rfl (Nat.le_of_ble_eq_true rfl) dX12_feed_111 (fun H locs hw => ?_)
      have hw : kW γ A [(z, .inr (11, [.int 0, .int (nI (n + 1)), .ref z2, .int n3, .int n4, .int n5, .int n6, .long n7, .int n8, .int n9, .ref z10, .ref z11, .ref z12, .ref z13, .ref z14, .ref z15, .ref z16, .ref z17, .ref z18, .ref z19, .int n20, .int n21, .ref z22, .ref z23, .ref z24, .ref z25, .ref z26, .ref z27, .ref z28, .ref z29, .ref z30, .ref z31, .ref z32, .ref z33, .int n34, .long n35, .ref z36, .ref z37, .ref z38, .ref z39, .ref z40, .ref z41, .ref z42, .ref z43, .ref z44, .ref z45, .ref z46, .ref z47, .ref z48, .int n49, .int n50, .int n51, .int n52, .int n53, .int n54, .ref z55, .ref z56, .int n57, .int n58, .ref z59, .ref z60, .ref z61, .int n62, .long n63])), (z2, .inl (γ.2.1 0, 1000, .inl f_309))] s H locs := hw
      refine lv_iinc (v := 1) (lv' := [(7, .int 1), (10, .int x_308), (8, .long va), (0, .ref z), (1, .long va), (3, .long vb), (5, .long vc)]) hx hb dX12_feed_114 hl (k := 2) rfl (by decide) (by decide) rfl (fun ls hl => ?_)
      refine lv_goto (tgt := 8) hx hb dX12_feed_117 (by decide) ?_
      have hst : kst n (kby va 56) = (n + 1) := by rw [← hk]; exact (by first | exact kst_full hfull | exact kst_a c76 hlt | exact kst_b c83 c90 hlt | exact kst_lo c76 c83 | exact kst_hi c76 c90)
      have hup : kup f n (kby va 56) = f_309 := by rw [← hk, ef_309, nI_clamp (by omega)]; exact kup_y (by first | exact kok_a c76 | exact kok_b c83 c90) hlt
      exact mf_1 z z2 z10 z11 z12 z13 z14 z15 z16 z17 z18 z19 z22 z23 z24 z25 z26 z27 z28 z29 z30 z31 z32 z33 z36 z37 z38 z39 z40 z41 z42 z43 z44 z45 z46 z47 z48 z55 z56 z59 z60 z61 n3 n4 n5 n6 n7 n8 n9 n20 n21 n34 n35 n49 n50 n51 n52 n53 n54 n57 n58 n62 n63 va vb vc (n + 1) f_309 (by omega) F G (by have h9 : kad vc 8 (kad vb 8 (kad va 7 (kst n (kby va 56)))) = F := hF; rw [hst] at h9; exact h9) (by have h9 : kfa vc 8 (kad vb 8 (kad va 7 (kst n (kby va 56)))) (kfa vb 8 (kad va 7 (kst n (kby va 56))) (kfa va 7 (kst n (kby va 56)) (kup f n (kby va 56)))) = G := hG; rw [hst, hup] at h9; exact h9) hC hr hlocks _ _ (kW.sub hw [0, 1] rfl rfl) _ (lv_sub hl [0, 3, 4, 5, 6] rfl)
    · refine lv_iload hx hb dX12_feed_79 (lv_at hl 0 rfl) ?_
      refine lv_bipush (v := 32) hx hb dX12_feed_81 (by decide) ?_
      refine lv_icmp_lt (tgt := 114) hx hb dX12_feed_83 (by decide) (fun c83 => ?_) (fun c83 => ?_)
      · refine lv_iinc (v := 1) (lv' := [(7, .int 1), (10, .int x_308), (8, .long va), (0, .ref z), (1, .long va), (3, .long vb), (5, .long vc)]) hx hb dX12_feed_114 hl (k := 2) rfl (by decide) (by decide) rfl (fun ls hl => ?_)
        refine lv_goto (tgt := 8) hx hb dX12_feed_117 (by decide) ?_
        have hst : kst n (kby va 56) = n := by rw [← hk]; exact (by first | exact kst_full hfull | exact kst_a c76 hlt | exact kst_b c83 c90 hlt | exact kst_lo c76 c83 | exact kst_hi c76 c90)
        have hup : kup f n (kby va 56) = f := by rw [← hk]; exact (by first | exact kup_full hfull | exact kup_lo c76 c83 | exact kup_hi c76 c90)
        exact mf_1 z z2 z10 z11 z12 z13 z14 z15 z16 z17 z18 z19 z22 z23 z24 z25 z26 z27 z28 z29 z30 z31 z32 z33 z36 z37 z38 z39 z40 z41 z42 z43 z44 z45 z46 z47 z48 z55 z56 z59 z60 z61 n3 n4 n5 n6 n7 n8 n9 n20 n21 n34 n35 n49 n50 n51 n52 n53 n54 n57 n58 n62 n63 va vb vc n f (by omega) F G (by have h9 : kad vc 8 (kad vb 8 (kad va 7 (kst n (kby va 56)))) = F := hF; rw [hst] at h9; exact h9) (by have h9 : kfa vc 8 (kad vb 8 (kad va 7 (kst n (kby va 56)))) (kfa vb 8 (kad va 7 (kst n (kby va 56))) (kfa va 7 (kst n (kby va 56)) (kup f n (kby va 56)))) = G := hG; rw [hst, hup] at h9; exact h9) hC hr hlocks _ _ (kW.sub hw [0, 1] rfl rfl) _ (lv_sub hl [0, 3, 4, 5, 6] rfl)
      · refine lv_iload hx hb dX12_feed_86 (lv_at hl 0 rfl) ?_
        refine lv_bipush (v := 126) hx hb dX12_feed_88 (by decide) ?_
        refine lv_icmp_gt (tgt := 114) hx hb dX12_feed_90 (by decide) (fun c90 => ?_) (fun c90 => ?_)
        · refine lv_iinc (v := 1) (lv' := [(7, .int 1), (10, .int x_308), (8, .long va), (0, .ref z), (1, .long va), (3, .long vb), (5, .long vc)]) hx hb dX12_feed_114 hl (k := 2) rfl (by decide) (by decide) rfl (fun ls hl => ?_)
          refine lv_goto (tgt := 8) hx hb dX12_feed_117 (by decide) ?_
          have hst : kst n (kby va 56) = n := by rw [← hk]; exact (by first | exact kst_full hfull | exact kst_a c76 hlt | exact kst_b c83 c90 hlt | exact kst_lo c76 c83 | exact kst_hi c76 c90)
          have hup : kup f n (kby va 56) = f := by rw [← hk]; exact (by first | exact kup_full hfull | exact kup_lo c76 c83 | exact kup_hi c76 c90)
          exact mf_1 z z2 z10 z11 z12 z13 z14 z15 z16 z17 z18 z19 z22 z23 z24 z25 z26 z27 z28 z29 z30 z31 z32 z33 z36 z37 z38 z39 z40 z41 z42 z43 z44 z45 z46 z47 z48 z55 z56 z59 z60 z61 n3 n4 n5 n6 n7 n8 n9 n20 n21 n34 n35 n49 n50 n51 n52 n53 n54 n57 n58 n62 n63 va vb vc n f (by omega) F G (by have h9 : kad vc 8 (kad vb 8 (kad va 7 (kst n (kby va 56)))) = F := hF; rw [hst] at h9; exact h9) (by have h9 : kfa vc 8 (kad vb 8 (kad va 7 (kst n (kby va 56)))) (kfa vb 8 (kad va 7 (kst n (kby va 56))) (kfa va 7 (kst n (kby va 56)) (kup f n (kby va 56)))) = G := hG; rw [hst, hup] at h9; exact h9) hC hr hlocks _ _ (kW.sub hw [0, 1] rfl rfl) _ (lv_sub hl [0, 3, 4, 5, 6] rfl)
        · refine lv_aload_n hx hb dX12_feed_93 rfl (lv_at hl 3 rfl) ?_
          refine fg_RX12_7 hC hw 0 rfl rfl dX12_feed_94 ?_
          refine lv_aload_n hx hb dX12_feed_97 rfl (lv_at hl 3 rfl) ?_
          refine fg_RX12_148 hC hw 0 rfl rfl dX12_feed_98 ?_
          refine lv_iload hx hb dX12_feed_101 (lv_at hl 0 rfl) ?_
          refine k_iast hC hw 1 rfl (vp_in_nI hlt (by decide)) dX12_feed_103 (fun H locs hw => ?_)
          obtain ⟨f_311, ef_311⟩ : ∃ g, g = upd f ((nI n) : Int32).toNatClampNeg x_308 := ⟨_, rfl⟩
          have hw : kW γ A [(z, .inr (11, [.int 0, .int (nI n), .ref z2, .int n3, .int n4, .int n5, .int n6, .long n7, .int n8, .int n9, .ref z10, .ref z11, .ref z12, .ref z13, .ref z14, .ref z15, .ref z16, .ref z17, .ref z18, .ref z19, .int n20, .int n21, .ref z22, .ref z23, .ref z24, .ref z25, .ref z26, .ref z27, .ref z28, .ref z29, .ref z30, .ref z31, .ref z32, .ref z33, .int n34, .long n35, .ref z36, .ref z37, .ref z38, .ref z39, .ref z40, .ref z41, .ref z42, .ref z43, .ref z44, .ref z45, .ref z46, .ref z47, .ref z48, .int n49, .int n50, .int n51, .int n52, .int n53, .int n54, .ref z55, .ref z56, .int n57, .int n58, .ref z59, .ref z60, .ref z61, .int n62, .long n63])), (z2, .inl (γ.2.1 0, 1000, .inl f_311))] s H locs := by rw [ef_311]; exact hw
          refine lv_aload_n hx hb dX12_feed_104 rfl (lv_at hl 3 rfl) ?_
          refine lv_dup hx hb dX12_feed_105 rfl ?_
          refine fg_RX12_148 hC hw 0 rfl rfl dX12_feed_106 ?_
          refine lv_iconst (v := 1) hx hb dX12_feed_109 (by decide) ?_
          refine lv_iadd hx hb dX12_feed_110 ?_
          refine lv_topi (fun x_312 ex_312 => ?_)
          obtain rfl : x_312 = (nI (n + 1)) := ex_312.trans (nI_1 n)
          refine fs_RX12_148 hC hw 0 rfl rfl rfl (Nat.le_of_ble_eq_true rfl) dX12_feed_111 (fun H locs hw => ?_)
          have hw : kW γ A [(z, .inr (11, [.int 0, .int (nI (n + 1)), .ref z2, .int n3, .int n4, .int n5, .int n6, .long n7, .int n8, .int n9, .ref z10, .ref z11, .ref z12, .ref z13, .ref z14, .ref z15, .ref z16, .ref z17, .ref z18, .ref z19, .int n20, .int n21, .ref z22, .ref z23, .ref z24, .ref z25, .ref z26, .ref z27, .ref z28, .ref z29, .ref z30, .ref z31, .ref z32, .ref z33, .int n34, .long n35, .ref z36, .ref z37, .ref z38, .ref z39, .ref z40, .ref z41, .ref z42, .ref z43, .ref z44, .ref z45, .ref z46, .ref z47, .ref z48, .int n49, .int n50, .int n51, .int n52, .int n53, .int n54, .ref z55, .ref z56, .int n57, .int n58, .ref z59, .ref z60, .ref z61, .int n62, .long n63])), (z2, .inl (γ.2.1 0, 1000, .inl f_311))] s H locs := hw
          refine lv_iinc (v := 1) (lv' := [(7, .int 1), (10, .int x_308), (8, .long va), (0, .ref z), (1, .long va), (3, .long vb), (5, .long vc)]) hx hb dX12_feed_114 hl (k := 2) rfl (by decide) (by decide) rfl (fun ls hl => ?_)
          refine lv_goto (tgt := 8) hx hb dX12_feed_117 (by decide) ?_
          have hst : kst n (kby va 56) = (n + 1) := by rw [← hk]; exact (by first | exact kst_full hfull | exact kst_a c76 hlt | exact kst_b c83 c90 hlt | exact kst_lo c76 c83 | exact kst_hi c76 c90)
          have hup : kup f n (kby va 56) = f_311 := by rw [← hk, ef_311, nI_clamp (by omega)]; exact kup_y (by first | exact kok_a c76 | exact kok_b c83 c90) hlt
          exact mf_1 z z2 z10 z11 z12 z13 z14 z15 z16 z17 z18 z19 z22 z23 z24 z25 z26 z27 z28 z29 z30 z31 z32 z33 z36 z37 z38 z39 z40 z41 z42 z43 z44 z45 z46 z47 z48 z55 z56 z59 z60 z61 n3 n4 n5 n6 n7 n8 n9 n20 n21 n34 n35 n49 n50 n51 n52 n53 n54 n57 n58 n62 n63 va vb vc (n + 1) f_311 (by omega) F G (by have h9 : kad vc 8 (kad vb 8 (kad va 7 (kst n (kby va 56)))) = F := hF; rw [hst] at h9; exact h9) (by have h9 : kfa vc 8 (kad vb 8 (kad va 7 (kst n (kby va 56)))) (kfa vb 8 (kad va 7 (kst n (kby va 56))) (kfa va 7 (kst n (kby va 56)) (kup f n (kby va 56)))) = G := hG; rw [hst, hup] at h9; exact h9) hC hr hlocks _ _ (kW.sub hw [0, 1] rfl rfl) _ (lv_sub hl [0, 3, 4, 5, 6] rfl)

set_option maxHeartbeats 4000000 in
set_option maxRecDepth 100000 in
theorem c_X12_feed (γ : kΓ) (l : Launch) (z : Nat) (z2 : Nat) (z10 : Nat) (z11 : Nat) (z12 : Nat) (z13 : Nat) (z14 : Nat) (z15 : Nat) (z16 : Nat) (z17 : Nat) (z18 : Nat) (z19 : Nat) (z22 : Nat) (z23 : Nat) (z24 : Nat) (z25 : Nat) (z26 : Nat) (z27 : Nat) (z28 : Nat) (z29 : Nat) (z30 : Nat) (z31 : Nat) (z32 : Nat) (z33 : Nat) (z36 : Nat) (z37 : Nat) (z38 : Nat) (z39 : Nat) (z40 : Nat) (z41 : Nat) (z42 : Nat) (z43 : Nat) (z44 : Nat) (z45 : Nat) (z46 : Nat) (z47 : Nat) (z48 : Nat) (z55 : Nat) (z56 : Nat) (z59 : Nat) (z60 : Nat) (z61 : Nat) (n0 : Int32) (n3 : Int32) (n4 : Int32) (n5 : Int32) (n6 : Int32) (n7 : Int64) (n8 : Int32) (n9 : Int32) (n20 : Int32) (n21 : Int32) (n34 : Int32) (n35 : Int64) (n49 : Int32) (n50 : Int32) (n51 : Int32) (n52 : Int32) (n53 : Int32) (n54 : Int32) (n57 : Int32) (n58 : Int32) (n62 : Int32) (n63 : Int64) (va : Int64) (vb : Int64) (vc : Int64) (n : Nat) (f : Nat → Int32) (hn : n ≤ 1000) : kM γ l yX12_feed cX12_feed 11 ((some .int)) ({ frames := 0, cells := 0, slots := 0, locals := 0 } : Room) [.ref z, .long va, .long vb, .long vc] [(z, .inr (11, [.int n0, .int (nI n), .ref z2, .int n3, .int n4, .int n5, .int n6, .long n7, .int n8, .int n9, .ref z10, .ref z11, .ref z12, .ref z13, .ref z14, .ref z15, .ref z16, .ref z17, .ref z18, .ref z19, .int n20, .int n21, .ref z22, .ref z23, .ref z24, .ref z25, .ref z26, .ref z27, .ref z28, .ref z29, .ref z30, .ref z31, .ref z32, .ref z33, .int n34, .long n35, .ref z36, .ref z37, .ref z38, .ref z39, .ref z40, .ref z41, .ref z42, .ref z43, .ref z44, .ref z45, .ref z46, .ref z47, .ref z48, .int n49, .int n50, .int n51, .int n52, .int n53, .int n54, .ref z55, .ref z56, .int n57, .int n58, .ref z59, .ref z60, .ref z61, .int n62, .long n63])), (z2, .inl (γ.2.1 0, 1000, .inl f))] (fun r w1 => r = some (.int (nI (kad vc 8 (kad vb 8 (kad va 8 n))))) ∧ w1 = [(z, .inr (11, [.int 0, .int (nI (kad vc 8 (kad vb 8 (kad va 8 n)))), .ref z2, .int n3, .int n4, .int n5, .int n6, .long n7, .int n8, .int n9, .ref z10, .ref z11, .ref z12, .ref z13, .ref z14, .ref z15, .ref z16, .ref z17, .ref z18, .ref z19, .int n20, .int n21, .ref z22, .ref z23, .ref z24, .ref z25, .ref z26, .ref z27, .ref z28, .ref z29, .ref z30, .ref z31, .ref z32, .ref z33, .int n34, .long n35, .ref z36, .ref z37, .ref z38, .ref z39, .ref z40, .ref z41, .ref z42, .ref z43, .ref z44, .ref z45, .ref z46, .ref z47, .ref z48, .int n49, .int n50, .int n51, .int n52, .int n53, .int n54, .ref z55, .ref z56, .int n57, .int n58, .ref z59, .ref z60, .ref z61, .int n62, .long n63])), (z2, .inl (γ.2.1 0, 1000, .inl ((kfa vc 8 (kad vb 8 (kad va 8 n)) (kfa vb 8 (kad va 8 n) (kfa va 8 n f))))))]) := by
  refine k_ofW (by decide) (Nat.le_of_ble_eq_true rfl) ?_
  intro p9 e s m below meth c A ls hC hr hlocks hname hw hl
  have hx := hC.1
  have hb := hC.2.1
  have hl : lv_has ls 11 [(0, .ref z), (1, .long va), (3, .long vb), (5, .long vc)] := hl
  refine lv_aload_n hx hb dX12_feed_0 rfl (lv_at hl 0 rfl) ?_
  refine lv_iconst (v := 0) hx hb dX12_feed_1 (by decide) ?_
  refine fs_RX12_143 hC hw 0 rfl rfl rfl (Nat.le_of_ble_eq_true rfl) dX12_feed_2 (fun H locs hw => ?_)
  have hw : kW γ A [(z, .inr (11, [.int 0, .int (nI n), .ref z2, .int n3, .int n4, .int n5, .int n6, .long n7, .int n8, .int n9, .ref z10, .ref z11, .ref z12, .ref z13, .ref z14, .ref z15, .ref z16, .ref z17, .ref z18, .ref z19, .int n20, .int n21, .ref z22, .ref z23, .ref z24, .ref z25, .ref z26, .ref z27, .ref z28, .ref z29, .ref z30, .ref z31, .ref z32, .ref z33, .int n34, .long n35, .ref z36, .ref z37, .ref z38, .ref z39, .ref z40, .ref z41, .ref z42, .ref z43, .ref z44, .ref z45, .ref z46, .ref z47, .ref z48, .int n49, .int n50, .int n51, .int n52, .int n53, .int n54, .ref z55, .ref z56, .int n57, .int n58, .ref z59, .ref z60, .ref z61, .int n62, .long n63])), (z2, .inl (γ.2.1 0, 1000, .inl f))] s H locs := hw
  refine lv_iconst (v := 0) hx hb dX12_feed_5 (by decide) ?_
  refine lv_istore (lv' := [(7, .int 0), (0, .ref z), (1, .long va), (3, .long vb), (5, .long vc)]) hx hb dX12_feed_6 hl (by decide) rfl (fun ls hl => ?_)
  exact mf_0 z z2 z10 z11 z12 z13 z14 z15 z16 z17 z18 z19 z22 z23 z24 z25 z26 z27 z28 z29 z30 z31 z32 z33 z36 z37 z38 z39 z40 z41 z42 z43 z44 z45 z46 z47 z48 z55 z56 z59 z60 z61 n3 n4 n5 n6 n7 n8 n9 n20 n21 n34 n35 n49 n50 n51 n52 n53 n54 n57 n58 n62 n63 va vb vc n f hn _ _ rfl rfl hC hr hlocks _ _ (kW.sub hw [0, 1] rfl rfl) _ (lv_sub hl [0, 1, 2, 3, 4] rfl)


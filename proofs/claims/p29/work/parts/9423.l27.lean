set_option maxHeartbeats 4000000 in
set_option maxRecDepth 100000 in
theorem lc_27_ge_l {γ : kΓ} {l : Launch} {p : Program} {e : Env} {s : State} {m : MethodId} {below : List Frame} {meth : Method} {c : Code} {A : Nat → Prop} {Q : State → Prop} {b L : Nat} {xs : Nat → Int32} {x z ou : Nat} {ax am : List Nat} {i : Int32} {cs ss : Nat} (bo lo ge wh : Int32) (hC : kC γ p s m [Value.ref b].toArray c code 7 RL A) (hX : va_X b L xs s s.heap) (hbl : b < s.heap.size) (hbA : ¬ A b) (hl9 : l.stackTraces = false) (hax : ax[0]? = some x) (ham : am[0]? = some z) (hi : ∀ j : Int32, 0 ≤ j → j ≤ 6 → vp_in (i + j) L) (hcs : cs + 1 ≤ 601024) (hss : ss + 6 ≤ 7293034)
    (hk : ∀ (H : Heap) (locs : List Loc) (ls : Array Slot), lIv γ A ax am ou s H locs → lv_has ls 7 [(4, .int i), (0, .ref b), (1, .ref x), (2, .ref z), (3, .ref ou)] → W p l e room_1 s m [Value.ref b].toArray below meth c H locs (cs + 1) (ss + 6) Q (F0 m 1286 ls []))
    {H : Heap} {locs : List Loc} {ls : Array Slot} (hI : lIv γ A ax am ou s H locs) (hl : lv_has ls 7 [(4, .int i), (0, .ref b), (1, .ref x), (2, .ref z), (3, .ref ou)]) (ebo : bo = xs (i + 1).toNatClampNeg) (elo : lo = xs (i + 2).toNatClampNeg) (ege : ge = xs (i + 3).toNatClampNeg) (ewh : wh = xs (i + 4).toNatClampNeg) (hb0 : ¬ bo < 0) (hb1 : ¬ 9 < bo) (hl0 : ¬ lo < 0) (hl1 : ¬ 9 < lo) (h1 : ge < 0) : W p l e room_1 s m [Value.ref b].toArray below meth c H locs cs ss Q (F0 m 1039 ls []) := by
  have hx := hC.1
  have hb := hC.2.1
  obtain ⟨wx, wm, fo, hw, hHx, hHm, hMx⟩ := hI
  obtain ⟨x0, x1, x2, x3, x4, x5, x6, x7, x8, x9, x10, wx1, rfl⟩ := c_x11 hHx hax
  obtain ⟨n0, n1, z2, n3, n4, n5, n6, n7, n8, n9, z10, z11, z12, z13, z14, z15, z16, z17, z18, z19, n20, n21, z22, z23, z24, z25, z26, z27, z28, z29, z30, z31, z32, z33, n34, n35, z36, z37, z38, z39, z40, z41, z42, z43, z44, z45, z46, z47, z48, n49, n50, n51, n52, n53, n54, z55, z56, n57, n58, z59, z60, z61, n62, n63, wm1, rfl⟩ := m_z64 hHm ham
  refine lv_aload_n hx hb dL_law_1039 rfl (lv_at hl 2 rfl) ?_
  refine lv_aload_n hx hb dL_law_1040 rfl (lv_at hl 1 rfl) ?_
  refine lv_iload hx hb dL_law_1041 (lv_at hl 0 rfl) ?_
  refine lv_iconst (v := 1) hx hb dL_law_1043 (by decide) ?_
  refine lv_iadd hx hb dL_law_1044 ?_
  refine va_sld hx hb hX hbl hbA hw.2.2 (hi 1 (by decide) (by decide)) dL_law_1045 ?_
  refine lv_topi (fun v1 ev1 => ?_)
  obtain rfl : bo = v1 := ebo.trans ev1.symm
  refine lv_aload_n hx hb dL_law_1046 rfl (lv_at hl 1 rfl) ?_
  refine lv_iload hx hb dL_law_1047 (lv_at hl 0 rfl) ?_
  refine lv_iconst (v := 2) hx hb dL_law_1049 (by decide) ?_
  refine lv_iadd hx hb dL_law_1050 ?_
  refine va_sld hx hb hX hbl hbA hw.2.2 (hi 2 (by decide) (by decide)) dL_law_1051 ?_
  refine lv_topi (fun v2 ev2 => ?_)
  obtain rfl : lo = v2 := elo.trans ev2.symm
  refine lv_aload_n hx hb dL_law_1052 rfl (lv_at hl 1 rfl) ?_
  refine lv_iload hx hb dL_law_1053 (lv_at hl 0 rfl) ?_
  refine lv_iconst (v := 3) hx hb dL_law_1055 (by decide) ?_
  refine lv_iadd hx hb dL_law_1056 ?_
  refine va_sld hx hb hX hbl hbA hw.2.2 (hi 3 (by decide) (by decide)) dL_law_1057 ?_
  refine lv_topi (fun v3 ev3 => ?_)
  obtain rfl : ge = v3 := ege.trans ev3.symm
  refine lv_aload_n hx hb dL_law_1058 rfl (lv_at hl 1 rfl) ?_
  refine lv_iload hx hb dL_law_1059 (lv_at hl 0 rfl) ?_
  refine lv_iconst (v := 4) hx hb dL_law_1061 (by decide) ?_
  refine lv_iadd hx hb dL_law_1062 ?_
  refine va_sld hx hb hX hbl hbA hw.2.2 (hi 4 (by decide) (by decide)) dL_law_1063 ?_
  refine lv_topi (fun v4 ev4 => ?_)
  obtain rfl : wh = v4 := ewh.trans ev4.symm
  refine lv_aload_n hx hb dL_law_1064 rfl (lv_at hl 4 rfl) ?_
  have hw := hw.perm b_sw4
  refine l_SW 6 gw_1146 gw_1147 gw_0 gw_1148 hd_L_rests hC hw (c_L_rests_ge_l γ l hl9 x x0 x1 x2 x3 x4 x5 x6 x7 x8 x9 x10 bo lo ge wh ou fo hb0 hb1 hl0 hl1 h1) ⟨by decide, by decide⟩ ⟨by show cs + 1 ≤ 601024; omega, by show ss + 6 ≤ 7293034; omega⟩ hl.1 rfl rfl (Nat.le_of_ble_eq_true rfl) dL_law_1065 (fun r w1 H locs hq hw => ?_)
  obtain ⟨rfl, rfl⟩ := hq
  refine W.eq (g2 := F0 m 1068 ls [.int 1]) rfl ?_
  refine W.widen (k := cs + 1) (n := ss + 6) (by show cs + 1 ≤ cs + 1; omega) (by show ss + 6 ≤ ss + 6; omega) ?_
  refine lv_istore (lv' := [(5, .int 1), (4, .int i), (0, .ref b), (1, .ref x), (2, .ref z), (3, .ref ou)]) hx hb dL_law_1068 hl (by decide) rfl (fun ls hl => ?_)
  have hw := kW.perm hw b_sw5
  refine lv_aload_n hx hb dL_law_1070 rfl (lv_at hl 4 rfl) ?_
  refine lv_aload_n hx hb dL_law_1071 rfl (lv_at hl 2 rfl) ?_
  refine lv_iload hx hb dL_law_1072 (lv_at hl 1 rfl) ?_
  refine lv_iconst (v := 1) hx hb dL_law_1074 (by decide) ?_
  refine lv_iadd hx hb dL_law_1075 ?_
  refine va_sld hx hb hX hbl hbA hw.2.2 (hi 1 (by decide) (by decide)) dL_law_1076 ?_
  refine lv_topi (fun v5 ev5 => ?_)
  obtain rfl : bo = v5 := ebo.trans ev5.symm
  refine lv_aload_n hx hb dL_law_1077 rfl (lv_at hl 2 rfl) ?_
  refine lv_iload hx hb dL_law_1078 (lv_at hl 1 rfl) ?_
  refine lv_iconst (v := 2) hx hb dL_law_1080 (by decide) ?_
  refine lv_iadd hx hb dL_law_1081 ?_
  refine va_sld hx hb hX hbl hbA hw.2.2 (hi 2 (by decide) (by decide)) dL_law_1082 ?_
  refine lv_topi (fun v6 ev6 => ?_)
  obtain rfl : lo = v6 := elo.trans ev6.symm
  refine lv_aload_n hx hb dL_law_1083 rfl (lv_at hl 2 rfl) ?_
  refine lv_iload hx hb dL_law_1084 (lv_at hl 1 rfl) ?_
  refine lv_iconst (v := 3) hx hb dL_law_1086 (by decide) ?_
  refine lv_iadd hx hb dL_law_1087 ?_
  refine va_sld hx hb hX hbl hbA hw.2.2 (hi 3 (by decide) (by decide)) dL_law_1088 ?_
  refine lv_topi (fun v7 ev7 => ?_)
  obtain rfl : ge = v7 := ege.trans ev7.symm
  refine lv_aload_n hx hb dL_law_1089 rfl (lv_at hl 2 rfl) ?_
  refine lv_iload hx hb dL_law_1090 (lv_at hl 1 rfl) ?_
  refine lv_iconst (v := 4) hx hb dL_law_1092 (by decide) ?_
  refine lv_iadd hx hb dL_law_1093 ?_
  refine va_sld hx hb hX hbl hbA hw.2.2 (hi 4 (by decide) (by decide)) dL_law_1094 ?_
  refine lv_topi (fun v8 ev8 => ?_)
  obtain rfl : wh = v8 := ewh.trans ev8.symm
  refine l_V 4 gw_1780 gw_1781 gw_1782 gw_15 gw_1783 hd_X12_rests hC hw (c_X12_rests_ge_l γ l z z2 z10 z11 z12 z13 z14 z15 z16 z17 z18 z19 z22 z23 z24 z25 z26 z27 z28 z29 z30 z31 z32 z33 z36 z37 z38 z39 z40 z41 z42 z43 z44 z45 z46 z47 z48 z55 z56 z59 z60 z61 n0 n1 n3 n4 n5 n6 n7 n8 n9 n20 n21 n34 n35 n49 n50 n51 n52 n53 n54 n57 n58 n62 n63 bo lo ge wh hb0 hb1 hl0 hl1 h1) ⟨by decide, by decide⟩ ⟨by show cs + 1 + 0 ≤ 601024; omega, by show ss + 6 + 0 ≤ 7293034; omega⟩ hl.1 rfl rfl rfl rfl (Nat.le_of_ble_eq_true rfl) dL_law_1095 (fun r w1 H locs hq hw => ?_)
  obtain ⟨rfl, rfl⟩ := hq
  refine W.eq (g2 := F0 m 1098 ls [.int 0]) rfl ?_
  refine W.widen (k := cs + 1) (n := ss + 6) (Nat.le_refl _) (Nat.le_refl _) ?_
  refine lv_istore (lv' := [(6, .int 0), (5, .int 1), (4, .int i), (0, .ref b), (1, .ref x), (2, .ref z), (3, .ref ou)]) hx hb dL_law_1098 hl (by decide) rfl (fun ls hl => ?_)
  refine lv_aload_n hx hb dL_law_1100 rfl (lv_at hl 5 rfl) ?_
  refine l_V 0 gw_1385 gw_1386 gw_1387 gw_15 gw_1388 hd_X12_thrown hC hw (c_X12_thrown γ l z z2 z10 z11 z12 z13 z14 z15 z16 z17 z18 z19 z22 z23 z24 z25 z26 z27 z28 z29 z30 z31 z32 z33 z36 z37 z38 z39 z40 z41 z42 z43 z44 z45 z46 z47 z48 z55 z56 z59 z60 z61 n1 n3 n4 n5 n6 n7 n8 n9 n20 n21 n34 n35 n49 n50 n51 n52 n53 n54 n57 n58 n62 n63 1) ⟨by decide, by decide⟩ ⟨by show cs + 1 + 0 ≤ 601024; omega, by show ss + 6 + 0 ≤ 7293034; omega⟩ hl.1 rfl rfl rfl rfl (Nat.le_of_ble_eq_true rfl) dL_law_1101 (fun r w1 H locs hq hw => ?_)
  obtain ⟨rfl, rfl⟩ := hq
  refine W.eq (g2 := F0 m 1104 ls [.int 1]) rfl ?_
  refine W.widen (k := cs + 1) (n := ss + 6) (Nat.le_refl _) (Nat.le_refl _) ?_
  refine lv_iload hx hb dL_law_1104 (lv_at hl 1 rfl) ?_
  refine lv_icmp_eq (tgt := 1111) hx hb dL_law_1106 (by decide) (fun _ => ?_) (fun h => absurd (by decide) h)
  refine lv_iload hx hb dL_law_1111 (lv_at hl 1 rfl) ?_
  refine lv_if_ne (tgt := 1128) hx hb dL_law_1113 (by decide) (fun _ => ?_) (fun h => absurd h (by decide))
  refine lv_goto (tgt := 1286) hx hb dL_law_1128 (by decide) ?_
  exact hk _ _ _ ⟨_ :: wx1, _ :: wm1, fo, kW.perm hw b_sw6, hHx, m_hset 1 hHm, m_xset hHm hMx⟩ (lv_sub hl [2, 3, 4, 5, 6] rfl)

set_option maxHeartbeats 4000000 in
set_option maxRecDepth 100000 in
theorem lc_27_ge_h {γ : kΓ} {l : Launch} {p : Program} {e : Env} {s : State} {m : MethodId} {below : List Frame} {meth : Method} {c : Code} {A : Nat → Prop} {Q : State → Prop} {b L : Nat} {xs : Nat → Int32} {x z ou : Nat} {ax am : List Nat} {i : Int32} {cs ss : Nat} (bo lo ge wh : Int32) (hC : kC γ p s m [Value.ref b].toArray c code 7 RL A) (hX : va_X b L xs s s.heap) (hbl : b < s.heap.size) (hbA : ¬ A b) (hl9 : l.stackTraces = false) (hax : ax[0]? = some x) (ham : am[0]? = some z) (hi : ∀ j : Int32, 0 ≤ j → j ≤ 6 → vp_in (i + j) L) (hcs : cs + 1 ≤ 601024) (hss : ss + 6 ≤ 7293034)
    (hk : ∀ (H : Heap) (locs : List Loc) (ls : Array Slot), lIv γ A ax am ou s H locs → lv_has ls 7 [(4, .int i), (0, .ref b), (1, .ref x), (2, .ref z), (3, .ref ou)] → W p l e room_1 s m [Value.ref b].toArray below meth c H locs (cs + 1) (ss + 6) Q (F0 m 1286 ls []))
    {H : Heap} {locs : List Loc} {ls : Array Slot} (hI : lIv γ A ax am ou s H locs) (hl : lv_has ls 7 [(4, .int i), (0, .ref b), (1, .ref x), (2, .ref z), (3, .ref ou)]) (ebo : bo = xs (i + 1).toNatClampNeg) (elo : lo = xs (i + 2).toNatClampNeg) (ege : ge = xs (i + 3).toNatClampNeg) (ewh : wh = xs (i + 4).toNatClampNeg) (hb0 : ¬ bo < 0) (hb1 : ¬ 9 < bo) (hl0 : ¬ lo < 0) (hl1 : ¬ 9 < lo) (h1 : ¬ ge < 0) (h2 : 9 < ge) : W p l e room_1 s m [Value.ref b].toArray below meth c H locs cs ss Q (F0 m 1039 ls []) := by
  have hx := hC.1
  have hb := hC.2.1
  obtain ⟨wx, wm, fo, hw, hHx, hHm, hMx⟩ := hI
  obtain ⟨x0, x1, x2, x3, x4, x5, x6, x7, x8, x9, x10, wx1, rfl⟩ := c_x11 hHx hax
  obtain ⟨n0, n1, z2, n3, n4, n5, n6, n7, n8, n9, z10, z11, z12, z13, z14, z15, z16, z17, z18, z19, n20, n21, z22, z23, z24, z25, z26, z27, z28, z29, z30, z31, z32, z33, n34, n35, z36, z37, z38, z39, z40, z41, z42, z43, z44, z45, z46, z47, z48, n49, n50, n51, n52, n53, n54, z55, z56, n57, n58, z59, z60, z61, n62, n63, wm1, rfl⟩ := m_z64 hHm ham
  refine lv_aload_n hx hb dL_law_1039 rfl (lv_at hl 2 rfl) ?_
  refine lv_aload_n hx hb dL_law_1040 rfl (lv_at hl 1 rfl) ?_
  refine lv_iload hx hb dL_law_1041 (lv_at hl 0 rfl) ?_
  refine lv_iconst (v := 1) hx hb dL_law_1043 (by decide) ?_
  refine lv_iadd hx hb dL_law_1044 ?_
  refine va_sld hx hb hX hbl hbA hw.2.2 (hi 1 (by decide) (by decide)) dL_law_1045 ?_
  refine lv_topi (fun v1 ev1 => ?_)
  obtain rfl : bo = v1 := ebo.trans ev1.symm
  refine lv_aload_n hx hb dL_law_1046 rfl (lv_at hl 1 rfl) ?_
  refine lv_iload hx hb dL_law_1047 (lv_at hl 0 rfl) ?_
  refine lv_iconst (v := 2) hx hb dL_law_1049 (by decide) ?_
  refine lv_iadd hx hb dL_law_1050 ?_
  refine va_sld hx hb hX hbl hbA hw.2.2 (hi 2 (by decide) (by decide)) dL_law_1051 ?_
  refine lv_topi (fun v2 ev2 => ?_)
  obtain rfl : lo = v2 := elo.trans ev2.symm
  refine lv_aload_n hx hb dL_law_1052 rfl (lv_at hl 1 rfl) ?_
  refine lv_iload hx hb dL_law_1053 (lv_at hl 0 rfl) ?_
  refine lv_iconst (v := 3) hx hb dL_law_1055 (by decide) ?_
  refine lv_iadd hx hb dL_law_1056 ?_
  refine va_sld hx hb hX hbl hbA hw.2.2 (hi 3 (by decide) (by decide)) dL_law_1057 ?_
  refine lv_topi (fun v3 ev3 => ?_)
  obtain rfl : ge = v3 := ege.trans ev3.symm
  refine lv_aload_n hx hb dL_law_1058 rfl (lv_at hl 1 rfl) ?_
  refine lv_iload hx hb dL_law_1059 (lv_at hl 0 rfl) ?_
  refine lv_iconst (v := 4) hx hb dL_law_1061 (by decide) ?_
  refine lv_iadd hx hb dL_law_1062 ?_
  refine va_sld hx hb hX hbl hbA hw.2.2 (hi 4 (by decide) (by decide)) dL_law_1063 ?_
  refine lv_topi (fun v4 ev4 => ?_)
  obtain rfl : wh = v4 := ewh.trans ev4.symm
  refine lv_aload_n hx hb dL_law_1064 rfl (lv_at hl 4 rfl) ?_
  have hw := hw.perm b_sw4
  refine l_SW 6 gw_1146 gw_1147 gw_0 gw_1148 hd_L_rests hC hw (c_L_rests_ge_h γ l hl9 x x0 x1 x2 x3 x4 x5 x6 x7 x8 x9 x10 bo lo ge wh ou fo hb0 hb1 hl0 hl1 h1 h2) ⟨by decide, by decide⟩ ⟨by show cs + 1 ≤ 601024; omega, by show ss + 6 ≤ 7293034; omega⟩ hl.1 rfl rfl (Nat.le_of_ble_eq_true rfl) dL_law_1065 (fun r w1 H locs hq hw => ?_)
  obtain ⟨rfl, rfl⟩ := hq
  refine W.eq (g2 := F0 m 1068 ls [.int 1]) rfl ?_
  refine W.widen (k := cs + 1) (n := ss + 6) (by show cs + 1 ≤ cs + 1; omega) (by show ss + 6 ≤ ss + 6; omega) ?_
  refine lv_istore (lv' := [(5, .int 1), (4, .int i), (0, .ref b), (1, .ref x), (2, .ref z), (3, .ref ou)]) hx hb dL_law_1068 hl (by decide) rfl (fun ls hl => ?_)
  have hw := kW.perm hw b_sw5
  refine lv_aload_n hx hb dL_law_1070 rfl (lv_at hl 4 rfl) ?_
  refine lv_aload_n hx hb dL_law_1071 rfl (lv_at hl 2 rfl) ?_
  refine lv_iload hx hb dL_law_1072 (lv_at hl 1 rfl) ?_
  refine lv_iconst (v := 1) hx hb dL_law_1074 (by decide) ?_
  refine lv_iadd hx hb dL_law_1075 ?_
  refine va_sld hx hb hX hbl hbA hw.2.2 (hi 1 (by decide) (by decide)) dL_law_1076 ?_
  refine lv_topi (fun v5 ev5 => ?_)
  obtain rfl : bo = v5 := ebo.trans ev5.symm
  refine lv_aload_n hx hb dL_law_1077 rfl (lv_at hl 2 rfl) ?_
  refine lv_iload hx hb dL_law_1078 (lv_at hl 1 rfl) ?_
  refine lv_iconst (v := 2) hx hb dL_law_1080 (by decide) ?_
  refine lv_iadd hx hb dL_law_1081 ?_
  refine va_sld hx hb hX hbl hbA hw.2.2 (hi 2 (by decide) (by decide)) dL_law_1082 ?_
  refine lv_topi (fun v6 ev6 => ?_)
  obtain rfl : lo = v6 := elo.trans ev6.symm
  refine lv_aload_n hx hb dL_law_1083 rfl (lv_at hl 2 rfl) ?_
  refine lv_iload hx hb dL_law_1084 (lv_at hl 1 rfl) ?_
  refine lv_iconst (v := 3) hx hb dL_law_1086 (by decide) ?_
  refine lv_iadd hx hb dL_law_1087 ?_
  refine va_sld hx hb hX hbl hbA hw.2.2 (hi 3 (by decide) (by decide)) dL_law_1088 ?_
  refine lv_topi (fun v7 ev7 => ?_)
  obtain rfl : ge = v7 := ege.trans ev7.symm
  refine lv_aload_n hx hb dL_law_1089 rfl (lv_at hl 2 rfl) ?_
  refine lv_iload hx hb dL_law_1090 (lv_at hl 1 rfl) ?_
  refine lv_iconst (v := 4) hx hb dL_law_1092 (by decide) ?_
  refine lv_iadd hx hb dL_law_1093 ?_
  refine va_sld hx hb hX hbl hbA hw.2.2 (hi 4 (by decide) (by decide)) dL_law_1094 ?_
  refine lv_topi (fun v8 ev8 => ?_)
  obtain rfl : wh = v8 := ewh.trans ev8.symm
  refine l_V 4 gw_1780 gw_1781 gw_1782 gw_15 gw_1783 hd_X12_rests hC hw (c_X12_rests_ge_h γ l z z2 z10 z11 z12 z13 z14 z15 z16 z17 z18 z19 z22 z23 z24 z25 z26 z27 z28 z29 z30 z31 z32 z33 z36 z37 z38 z39 z40 z41 z42 z43 z44 z45 z46 z47 z48 z55 z56 z59 z60 z61 n0 n1 n3 n4 n5 n6 n7 n8 n9 n20 n21 n34 n35 n49 n50 n51 n52 n53 n54 n57 n58 n62 n63 bo lo ge wh hb0 hb1 hl0 hl1 h1 h2) ⟨by decide, by decide⟩ ⟨by show cs + 1 + 0 ≤ 601024; omega, by show ss + 6 + 0 ≤ 7293034; omega⟩ hl.1 rfl rfl rfl rfl (Nat.le_of_ble_eq_true rfl) dL_law_1095 (fun r w1 H locs hq hw => ?_)
  obtain ⟨rfl, rfl⟩ := hq
  refine W.eq (g2 := F0 m 1098 ls [.int 0]) rfl ?_
  refine W.widen (k := cs + 1) (n := ss + 6) (Nat.le_refl _) (Nat.le_refl _) ?_
  refine lv_istore (lv' := [(6, .int 0), (5, .int 1), (4, .int i), (0, .ref b), (1, .ref x), (2, .ref z), (3, .ref ou)]) hx hb dL_law_1098 hl (by decide) rfl (fun ls hl => ?_)
  refine lv_aload_n hx hb dL_law_1100 rfl (lv_at hl 5 rfl) ?_
  refine l_V 0 gw_1385 gw_1386 gw_1387 gw_15 gw_1388 hd_X12_thrown hC hw (c_X12_thrown γ l z z2 z10 z11 z12 z13 z14 z15 z16 z17 z18 z19 z22 z23 z24 z25 z26 z27 z28 z29 z30 z31 z32 z33 z36 z37 z38 z39 z40 z41 z42 z43 z44 z45 z46 z47 z48 z55 z56 z59 z60 z61 n1 n3 n4 n5 n6 n7 n8 n9 n20 n21 n34 n35 n49 n50 n51 n52 n53 n54 n57 n58 n62 n63 1) ⟨by decide, by decide⟩ ⟨by show cs + 1 + 0 ≤ 601024; omega, by show ss + 6 + 0 ≤ 7293034; omega⟩ hl.1 rfl rfl rfl rfl (Nat.le_of_ble_eq_true rfl) dL_law_1101 (fun r w1 H locs hq hw => ?_)
  obtain ⟨rfl, rfl⟩ := hq
  refine W.eq (g2 := F0 m 1104 ls [.int 1]) rfl ?_
  refine W.widen (k := cs + 1) (n := ss + 6) (Nat.le_refl _) (Nat.le_refl _) ?_
  refine lv_iload hx hb dL_law_1104 (lv_at hl 1 rfl) ?_
  refine lv_icmp_eq (tgt := 1111) hx hb dL_law_1106 (by decide) (fun _ => ?_) (fun h => absurd (by decide) h)
  refine lv_iload hx hb dL_law_1111 (lv_at hl 1 rfl) ?_
  refine lv_if_ne (tgt := 1128) hx hb dL_law_1113 (by decide) (fun _ => ?_) (fun h => absurd h (by decide))
  refine lv_goto (tgt := 1286) hx hb dL_law_1128 (by decide) ?_
  exact hk _ _ _ ⟨_ :: wx1, _ :: wm1, fo, kW.perm hw b_sw6, hHx, m_hset 1 hHm, m_xset hHm hMx⟩ (lv_sub hl [2, 3, 4, 5, 6] rfl)

set_option maxHeartbeats 4000000 in
set_option maxRecDepth 100000 in
theorem lc_27_wh {γ : kΓ} {l : Launch} {p : Program} {e : Env} {s : State} {m : MethodId} {below : List Frame} {meth : Method} {c : Code} {A : Nat → Prop} {Q : State → Prop} {b L : Nat} {xs : Nat → Int32} {x z ou : Nat} {ax am : List Nat} {i : Int32} {cs ss : Nat} (bo lo ge wh : Int32) (hC : kC γ p s m [Value.ref b].toArray c code 7 RL A) (hX : va_X b L xs s s.heap) (hbl : b < s.heap.size) (hbA : ¬ A b) (hl9 : l.stackTraces = false) (hax : ax[0]? = some x) (ham : am[0]? = some z) (hi : ∀ j : Int32, 0 ≤ j → j ≤ 6 → vp_in (i + j) L) (hcs : cs + 1 ≤ 601024) (hss : ss + 6 ≤ 7293034)
    (hk : ∀ (H : Heap) (locs : List Loc) (ls : Array Slot), lIv γ A ax am ou s H locs → lv_has ls 7 [(4, .int i), (0, .ref b), (1, .ref x), (2, .ref z), (3, .ref ou)] → W p l e room_1 s m [Value.ref b].toArray below meth c H locs (cs + 1) (ss + 6) Q (F0 m 1286 ls []))
    {H : Heap} {locs : List Loc} {ls : Array Slot} (hI : lIv γ A ax am ou s H locs) (hl : lv_has ls 7 [(4, .int i), (0, .ref b), (1, .ref x), (2, .ref z), (3, .ref ou)]) (ebo : bo = xs (i + 1).toNatClampNeg) (elo : lo = xs (i + 2).toNatClampNeg) (ege : ge = xs (i + 3).toNatClampNeg) (ewh : wh = xs (i + 4).toNatClampNeg) (hb0 : ¬ bo < 0) (hb1 : ¬ 9 < bo) (hl0 : ¬ lo < 0) (hl1 : ¬ 9 < lo) (hg0 : ¬ ge < 0) (hg1 : ¬ 9 < ge) (h1 : wh < -1) : W p l e room_1 s m [Value.ref b].toArray below meth c H locs cs ss Q (F0 m 1039 ls []) := by
  have hx := hC.1
  have hb := hC.2.1
  obtain ⟨wx, wm, fo, hw, hHx, hHm, hMx⟩ := hI
  obtain ⟨x0, x1, x2, x3, x4, x5, x6, x7, x8, x9, x10, wx1, rfl⟩ := c_x11 hHx hax
  obtain ⟨n0, n1, z2, n3, n4, n5, n6, n7, n8, n9, z10, z11, z12, z13, z14, z15, z16, z17, z18, z19, n20, n21, z22, z23, z24, z25, z26, z27, z28, z29, z30, z31, z32, z33, n34, n35, z36, z37, z38, z39, z40, z41, z42, z43, z44, z45, z46, z47, z48, n49, n50, n51, n52, n53, n54, z55, z56, n57, n58, z59, z60, z61, n62, n63, wm1, rfl⟩ := m_z64 hHm ham
  refine lv_aload_n hx hb dL_law_1039 rfl (lv_at hl 2 rfl) ?_
  refine lv_aload_n hx hb dL_law_1040 rfl (lv_at hl 1 rfl) ?_
  refine lv_iload hx hb dL_law_1041 (lv_at hl 0 rfl) ?_
  refine lv_iconst (v := 1) hx hb dL_law_1043 (by decide) ?_
  refine lv_iadd hx hb dL_law_1044 ?_
  refine va_sld hx hb hX hbl hbA hw.2.2 (hi 1 (by decide) (by decide)) dL_law_1045 ?_
  refine lv_topi (fun v1 ev1 => ?_)
  obtain rfl : bo = v1 := ebo.trans ev1.symm
  refine lv_aload_n hx hb dL_law_1046 rfl (lv_at hl 1 rfl) ?_
  refine lv_iload hx hb dL_law_1047 (lv_at hl 0 rfl) ?_
  refine lv_iconst (v := 2) hx hb dL_law_1049 (by decide) ?_
  refine lv_iadd hx hb dL_law_1050 ?_
  refine va_sld hx hb hX hbl hbA hw.2.2 (hi 2 (by decide) (by decide)) dL_law_1051 ?_
  refine lv_topi (fun v2 ev2 => ?_)
  obtain rfl : lo = v2 := elo.trans ev2.symm
  refine lv_aload_n hx hb dL_law_1052 rfl (lv_at hl 1 rfl) ?_
  refine lv_iload hx hb dL_law_1053 (lv_at hl 0 rfl) ?_
  refine lv_iconst (v := 3) hx hb dL_law_1055 (by decide) ?_
  refine lv_iadd hx hb dL_law_1056 ?_
  refine va_sld hx hb hX hbl hbA hw.2.2 (hi 3 (by decide) (by decide)) dL_law_1057 ?_
  refine lv_topi (fun v3 ev3 => ?_)
  obtain rfl : ge = v3 := ege.trans ev3.symm
  refine lv_aload_n hx hb dL_law_1058 rfl (lv_at hl 1 rfl) ?_
  refine lv_iload hx hb dL_law_1059 (lv_at hl 0 rfl) ?_
  refine lv_iconst (v := 4) hx hb dL_law_1061 (by decide) ?_
  refine lv_iadd hx hb dL_law_1062 ?_
  refine va_sld hx hb hX hbl hbA hw.2.2 (hi 4 (by decide) (by decide)) dL_law_1063 ?_
  refine lv_topi (fun v4 ev4 => ?_)
  obtain rfl : wh = v4 := ewh.trans ev4.symm
  refine lv_aload_n hx hb dL_law_1064 rfl (lv_at hl 4 rfl) ?_
  have hw := hw.perm b_sw4
  refine l_SW 6 gw_1146 gw_1147 gw_0 gw_1148 hd_L_rests hC hw (c_L_rests_wh γ l hl9 x x0 x1 x2 x3 x4 x5 x6 x7 x8 x9 x10 bo lo ge wh ou fo hb0 hb1 hl0 hl1 hg0 hg1 h1) ⟨by decide, by decide⟩ ⟨by show cs + 1 ≤ 601024; omega, by show ss + 6 ≤ 7293034; omega⟩ hl.1 rfl rfl (Nat.le_of_ble_eq_true rfl) dL_law_1065 (fun r w1 H locs hq hw => ?_)
  obtain ⟨rfl, rfl⟩ := hq
  refine W.eq (g2 := F0 m 1068 ls [.int 1]) rfl ?_
  refine W.widen (k := cs + 1) (n := ss + 6) (by show cs + 1 ≤ cs + 1; omega) (by show ss + 6 ≤ ss + 6; omega) ?_
  refine lv_istore (lv' := [(5, .int 1), (4, .int i), (0, .ref b), (1, .ref x), (2, .ref z), (3, .ref ou)]) hx hb dL_law_1068 hl (by decide) rfl (fun ls hl => ?_)
  have hw := kW.perm hw b_sw5
  refine lv_aload_n hx hb dL_law_1070 rfl (lv_at hl 4 rfl) ?_
  refine lv_aload_n hx hb dL_law_1071 rfl (lv_at hl 2 rfl) ?_
  refine lv_iload hx hb dL_law_1072 (lv_at hl 1 rfl) ?_
  refine lv_iconst (v := 1) hx hb dL_law_1074 (by decide) ?_
  refine lv_iadd hx hb dL_law_1075 ?_
  refine va_sld hx hb hX hbl hbA hw.2.2 (hi 1 (by decide) (by decide)) dL_law_1076 ?_
  refine lv_topi (fun v5 ev5 => ?_)
  obtain rfl : bo = v5 := ebo.trans ev5.symm
  refine lv_aload_n hx hb dL_law_1077 rfl (lv_at hl 2 rfl) ?_
  refine lv_iload hx hb dL_law_1078 (lv_at hl 1 rfl) ?_
  refine lv_iconst (v := 2) hx hb dL_law_1080 (by decide) ?_
  refine lv_iadd hx hb dL_law_1081 ?_
  refine va_sld hx hb hX hbl hbA hw.2.2 (hi 2 (by decide) (by decide)) dL_law_1082 ?_
  refine lv_topi (fun v6 ev6 => ?_)
  obtain rfl : lo = v6 := elo.trans ev6.symm
  refine lv_aload_n hx hb dL_law_1083 rfl (lv_at hl 2 rfl) ?_
  refine lv_iload hx hb dL_law_1084 (lv_at hl 1 rfl) ?_
  refine lv_iconst (v := 3) hx hb dL_law_1086 (by decide) ?_
  refine lv_iadd hx hb dL_law_1087 ?_
  refine va_sld hx hb hX hbl hbA hw.2.2 (hi 3 (by decide) (by decide)) dL_law_1088 ?_
  refine lv_topi (fun v7 ev7 => ?_)
  obtain rfl : ge = v7 := ege.trans ev7.symm
  refine lv_aload_n hx hb dL_law_1089 rfl (lv_at hl 2 rfl) ?_
  refine lv_iload hx hb dL_law_1090 (lv_at hl 1 rfl) ?_
  refine lv_iconst (v := 4) hx hb dL_law_1092 (by decide) ?_
  refine lv_iadd hx hb dL_law_1093 ?_
  refine va_sld hx hb hX hbl hbA hw.2.2 (hi 4 (by decide) (by decide)) dL_law_1094 ?_
  refine lv_topi (fun v8 ev8 => ?_)
  obtain rfl : wh = v8 := ewh.trans ev8.symm
  refine l_V 4 gw_1780 gw_1781 gw_1782 gw_15 gw_1783 hd_X12_rests hC hw (c_X12_rests_wh γ l z z2 z10 z11 z12 z13 z14 z15 z16 z17 z18 z19 z22 z23 z24 z25 z26 z27 z28 z29 z30 z31 z32 z33 z36 z37 z38 z39 z40 z41 z42 z43 z44 z45 z46 z47 z48 z55 z56 z59 z60 z61 n0 n1 n3 n4 n5 n6 n7 n8 n9 n20 n21 n34 n35 n49 n50 n51 n52 n53 n54 n57 n58 n62 n63 bo lo ge wh hb0 hb1 hl0 hl1 hg0 hg1 h1) ⟨by decide, by decide⟩ ⟨by show cs + 1 + 0 ≤ 601024; omega, by show ss + 6 + 0 ≤ 7293034; omega⟩ hl.1 rfl rfl rfl rfl (Nat.le_of_ble_eq_true rfl) dL_law_1095 (fun r w1 H locs hq hw => ?_)
  obtain ⟨rfl, rfl⟩ := hq
  refine W.eq (g2 := F0 m 1098 ls [.int 0]) rfl ?_
  refine W.widen (k := cs + 1) (n := ss + 6) (Nat.le_refl _) (Nat.le_refl _) ?_
  refine lv_istore (lv' := [(6, .int 0), (5, .int 1), (4, .int i), (0, .ref b), (1, .ref x), (2, .ref z), (3, .ref ou)]) hx hb dL_law_1098 hl (by decide) rfl (fun ls hl => ?_)
  refine lv_aload_n hx hb dL_law_1100 rfl (lv_at hl 5 rfl) ?_
  refine l_V 0 gw_1385 gw_1386 gw_1387 gw_15 gw_1388 hd_X12_thrown hC hw (c_X12_thrown γ l z z2 z10 z11 z12 z13 z14 z15 z16 z17 z18 z19 z22 z23 z24 z25 z26 z27 z28 z29 z30 z31 z32 z33 z36 z37 z38 z39 z40 z41 z42 z43 z44 z45 z46 z47 z48 z55 z56 z59 z60 z61 n1 n3 n4 n5 n6 n7 n8 n9 n20 n21 n34 n35 n49 n50 n51 n52 n53 n54 n57 n58 n62 n63 1) ⟨by decide, by decide⟩ ⟨by show cs + 1 + 0 ≤ 601024; omega, by show ss + 6 + 0 ≤ 7293034; omega⟩ hl.1 rfl rfl rfl rfl (Nat.le_of_ble_eq_true rfl) dL_law_1101 (fun r w1 H locs hq hw => ?_)
  obtain ⟨rfl, rfl⟩ := hq
  refine W.eq (g2 := F0 m 1104 ls [.int 1]) rfl ?_
  refine W.widen (k := cs + 1) (n := ss + 6) (Nat.le_refl _) (Nat.le_refl _) ?_
  refine lv_iload hx hb dL_law_1104 (lv_at hl 1 rfl) ?_
  refine lv_icmp_eq (tgt := 1111) hx hb dL_law_1106 (by decide) (fun _ => ?_) (fun h => absurd (by decide) h)
  refine lv_iload hx hb dL_law_1111 (lv_at hl 1 rfl) ?_
  refine lv_if_ne (tgt := 1128) hx hb dL_law_1113 (by decide) (fun _ => ?_) (fun h => absurd h (by decide))
  refine lv_goto (tgt := 1286) hx hb dL_law_1128 (by decide) ?_
  exact hk _ _ _ ⟨_ :: wx1, _ :: wm1, fo, kW.perm hw b_sw6, hHx, m_hset 1 hHm, m_xset hHm hMx⟩ (lv_sub hl [2, 3, 4, 5, 6] rfl)

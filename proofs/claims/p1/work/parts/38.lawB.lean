set_option maxHeartbeats 4000000 in
set_option maxRecDepth 100000 in
theorem lc_20_o {γ : kΓ} {l : Launch} {p : Program} {e : Env} {s : State} {m : MethodId} {below : List Frame} {meth : Method} {c : Code} {A : Nat → Prop} {b : Nat} {xs : Nat → Int32} (hC : kC γ p s m [Value.ref b].toArray c code 7 RL A) (hr : meth.sig.returnType = ret) (hlocks : meth.locks = false) (hX : va_X b 7 xs s s.heap) (hbl : b < s.heap.size) (hbA : ¬ A b) (hAs : ∀ q, A q → s.heap.size ≤ q) (hl9 : l.stackTraces = false) (x : Nat) (x0 : Nat) (x1 : Nat) (x2 : Nat) (x3 : Nat) (x4 : Nat) (x5 : Nat) (x6 : Nat) (x7 : Nat) (x8 : Nat) (x9 : Nat) (x10 : Nat) (z : Nat) (z2 : Nat) (z10 : Nat) (z11 : Nat) (z12 : Nat) (z13 : Nat) (z14 : Nat) (z15 : Nat) (z16 : Nat) (z17 : Nat) (z18 : Nat) (z19 : Nat) (z22 : Nat) (z23 : Nat) (z24 : Nat) (z25 : Nat) (z26 : Nat) (z27 : Nat) (z28 : Nat) (z29 : Nat) (z30 : Nat) (z31 : Nat) (z32 : Nat) (z33 : Nat) (z36 : Nat) (z37 : Nat) (z38 : Nat) (z39 : Nat) (z40 : Nat) (z41 : Nat) (z42 : Nat) (z43 : Nat) (z44 : Nat) (z45 : Nat) (z46 : Nat) (z47 : Nat) (z48 : Nat) (z55 : Nat) (z56 : Nat) (z59 : Nat) (z60 : Nat) (z61 : Nat) (x90 : Nat) (x91 : Nat) (x92 : Nat) (x93 : Nat) (x94 : Nat) (x95 : Nat) (x96 : Nat) (x97 : Nat) (fa : Nat → Int32) (ou : Nat) (ha0 : fa 0 = 0) (ha1 : fa 1 = 0) (ha2 : fa 2 = 10) (ha3 : fa 3 = 10) (ha4 : fa 4 = 3) (ht : ¬ xs 1 = -1) (H : Heap) (locs : List Loc) (hw : kW γ A [(x, .inr (10, [.ref x0, .ref x1, .ref x2, .ref x3, .ref x4, .ref x5, .ref x6, .ref x7, .ref x8, .ref x9, .ref x10])), (z, .inr (11, [.int 0, .int 0, .ref z2, .int 0, .int 0, .int 0, .int 0, .long 0, .int 0, .int 0, .ref z10, .ref z11, .ref z12, .ref z13, .ref z14, .ref z15, .ref z16, .ref z17, .ref z18, .ref z19, .int 0, .int 0, .ref z22, .ref z23, .ref z24, .ref z25, .ref z26, .ref z27, .ref z28, .ref z29, .ref z30, .ref z31, .ref z32, .ref z33, .int 0, .long 0, .ref z36, .ref z37, .ref z38, .ref z39, .ref z40, .ref z41, .ref z42, .ref z43, .ref z44, .ref z45, .ref z46, .ref z47, .ref z48, .int 0, .int 10, .int 0, .int 0, .int 0, .int 0, .ref z55, .ref z56, .int 0, .int 0, .ref z59, .ref z60, .ref z61, .int 0, .long 0])), (x9, .inr (0, [.ref x90, .ref x91, .ref x92, .ref x93, .ref x94, .ref x95, .ref x96, .ref x97, .int 0, .int 0, .int 10, .int 10, .int 3, .int 0, .int 0, .int 0, .int 0, .int 0, .int 0])), (z10, .inl (γ.2.1 0, 10, .inl fa))] s H locs) (ls : Array Slot) (hl : lv_has ls 7 [(4, .int 0), (3, .ref ou), (2, .ref z), (1, .ref x), (0, .ref b)]) : W p l e room_1 s m [Value.ref b].toArray below meth c H locs 251 13922 (lw_Z below #[Value.ref b] s) (F0 m 916 ls []) := by
  have hx := hC.1
  have hb := hC.2.1
  refine lv_aload_n hx hb dL_law_916 rfl (lv_at hl 3 rfl) ?_
  refine lv_aload_n hx hb dL_law_917 rfl (lv_at hl 4 rfl) ?_
  refine lv_iload hx hb dL_law_918 (lv_at hl 0 rfl) ?_
  refine lv_iconst (v := 1) hx hb dL_law_920 (by decide) ?_
  refine lv_iadd hx hb dL_law_921 ?_
  refine lv_topi (fun x_2259 ex_2259 => ?_)
  obtain rfl : x_2259 = 1 := ex_2259.trans (by decide)
  refine va_sld hx hb hX hbl hbA hw.2.2 (k_in0 (by decide)) dL_law_922 ?_
  refine lv_topi (fun x_2260 ex_2260 => ?_)
  obtain rfl : x_2260 = xs 1 := ex_2260
  refine k_V (wr := [(z, .inr (11, [.int 0, .int 0, .ref z2, .int 0, .int 0, .int 0, .int 0, .long 0, .int 0, .int 0, .ref z10, .ref z11, .ref z12, .ref z13, .ref z14, .ref z15, .ref z16, .ref z17, .ref z18, .ref z19, .int 0, .int 0, .ref z22, .ref z23, .ref z24, .ref z25, .ref z26, .ref z27, .ref z28, .ref z29, .ref z30, .ref z31, .ref z32, .ref z33, .int 0, .long 0, .ref z36, .ref z37, .ref z38, .ref z39, .ref z40, .ref z41, .ref z42, .ref z43, .ref z44, .ref z45, .ref z46, .ref z47, .ref z48, .int 0, .int 10, .int 0, .int 0, .int 0, .int 0, .ref z55, .ref z56, .int 0, .int 0, .ref z59, .ref z60, .ref z61, .int 0, .long 0])), (z10, .inl (γ.2.1 0, 10, .inl fa))]) 1 gw_983 gw_984 gw_985 gw_1 gw_986 hd_X11_match hC hw (c_X11_match_o γ l x x0 x1 x2 x3 x4 x5 x6 x7 x8 x9 x10 x90 x91 x92 x93 x94 x95 x96 x97 (xs 1) ht) ⟨by decide, by decide⟩ ⟨by decide, by decide⟩ hl.1 rfl 0 rfl rfl rfl (Nat.le_of_ble_eq_true rfl) [0, 2] [1, 3] rfl rfl rfl rfl (by decide) dL_law_923 (fun r w1 H locs hq hw => ?_)
  obtain ⟨rfl, rfl⟩ := hq
  have hw : kW γ A [(z, .inr (11, [.int 0, .int 0, .ref z2, .int 0, .int 0, .int 0, .int 0, .long 0, .int 0, .int 0, .ref z10, .ref z11, .ref z12, .ref z13, .ref z14, .ref z15, .ref z16, .ref z17, .ref z18, .ref z19, .int 0, .int 0, .ref z22, .ref z23, .ref z24, .ref z25, .ref z26, .ref z27, .ref z28, .ref z29, .ref z30, .ref z31, .ref z32, .ref z33, .int 0, .long 0, .ref z36, .ref z37, .ref z38, .ref z39, .ref z40, .ref z41, .ref z42, .ref z43, .ref z44, .ref z45, .ref z46, .ref z47, .ref z48, .int 0, .int 10, .int 0, .int 0, .int 0, .int 0, .ref z55, .ref z56, .int 0, .int 0, .ref z59, .ref z60, .ref z61, .int 0, .long 0])), (z10, .inl (γ.2.1 0, 10, .inl fa))] s H locs := hw
  refine W.eq (g2 := F0 m 926 ls [.int (-2)]) rfl ?_
  refine lv_aload_n hx hb dL_law_926 rfl (lv_at hl 2 rfl) ?_
  refine lv_aload_n hx hb dL_law_927 rfl (lv_at hl 4 rfl) ?_
  refine lv_iload hx hb dL_law_928 (lv_at hl 0 rfl) ?_
  refine lv_iconst (v := 1) hx hb dL_law_930 (by decide) ?_
  refine lv_iadd hx hb dL_law_931 ?_
  refine lv_topi (fun x_2261 ex_2261 => ?_)
  obtain rfl : x_2261 = 1 := ex_2261.trans (by decide)
  refine va_sld hx hb hX hbl hbA hw.2.2 (k_in0 (by decide)) dL_law_932 ?_
  refine lv_topi (fun x_2262 ex_2262 => ?_)
  obtain rfl : x_2262 = xs 1 := ex_2262
  refine k_V (wr := []) 1 gw_1748 gw_1749 gw_1750 gw_15 gw_1751 hd_X12_match hC hw (c_X12_match_o γ l z z2 z10 z11 z12 z13 z14 z15 z16 z17 z18 z19 z22 z23 z24 z25 z26 z27 z28 z29 z30 z31 z32 z33 z36 z37 z38 z39 z40 z41 z42 z43 z44 z45 z46 z47 z48 z55 z56 z59 z60 z61 fa (xs 1) ha0 ha1 ha2 ha3 ha4 ht) ⟨by decide, by decide⟩ ⟨by decide, by decide⟩ hl.1 rfl 0 rfl rfl rfl (Nat.le_of_ble_eq_true rfl) [0, 1] [] rfl rfl rfl rfl (by decide) dL_law_933 (fun r w1 H locs hq hw => ?_)
  obtain ⟨rfl, rfl⟩ := hq
  have hw : kW γ A [] s H locs := hw
  refine W.eq (g2 := F0 m 936 ls [.int (-2), .int (-2)]) rfl ?_
  refine lv_icmp_eq (tgt := 1370) hx hb dL_law_936 (by decide) (fun _ => ?_) (fun h => absurd (by decide) h)
  exact law_end hC hr hlocks hX hbl hbA hAs hl9 _ _ (kW.sub hw [] rfl rfl) (by decide) (by decide) _ (lv_sub hl [0, 4] rfl)

set_option maxHeartbeats 4000000 in
set_option maxRecDepth 100000 in
theorem lc_29_0 {γ : kΓ} {l : Launch} {p : Program} {e : Env} {s : State} {m : MethodId} {below : List Frame} {meth : Method} {c : Code} {A : Nat → Prop} {b : Nat} {xs : Nat → Int32} (hC : kC γ p s m [Value.ref b].toArray c code 7 RL A) (hr : meth.sig.returnType = ret) (hlocks : meth.locks = false) (hX : va_X b 7 xs s s.heap) (hbl : b < s.heap.size) (hbA : ¬ A b) (hAs : ∀ q, A q → s.heap.size ≤ q) (hl9 : l.stackTraces = false) (x : Nat) (x0 : Nat) (x1 : Nat) (x2 : Nat) (x3 : Nat) (x4 : Nat) (x5 : Nat) (x6 : Nat) (x7 : Nat) (x8 : Nat) (x9 : Nat) (x10 : Nat) (z : Nat) (z2 : Nat) (z10 : Nat) (z11 : Nat) (z12 : Nat) (z13 : Nat) (z14 : Nat) (z15 : Nat) (z16 : Nat) (z17 : Nat) (z18 : Nat) (z19 : Nat) (z22 : Nat) (z23 : Nat) (z24 : Nat) (z25 : Nat) (z26 : Nat) (z27 : Nat) (z28 : Nat) (z29 : Nat) (z30 : Nat) (z31 : Nat) (z32 : Nat) (z33 : Nat) (z36 : Nat) (z37 : Nat) (z38 : Nat) (z39 : Nat) (z40 : Nat) (z41 : Nat) (z42 : Nat) (z43 : Nat) (z44 : Nat) (z45 : Nat) (z46 : Nat) (z47 : Nat) (z48 : Nat) (z55 : Nat) (z56 : Nat) (z59 : Nat) (z60 : Nat) (z61 : Nat) (x90 : Nat) (x91 : Nat) (x92 : Nat) (x93 : Nat) (x94 : Nat) (x95 : Nat) (x96 : Nat) (x97 : Nat) (x4s : Nat) (x4s_l : Nat) (x4s_c : Nat) (x4s_g : Nat) (x4s_r : Nat) (x4s_k : Nat) (x4s_b : Nat) (fx4s_l : Nat → Int32) (fx4s_c : Nat → Int32) (fx4s_g : Nat → Int32) (fx4s_r : Nat → Int64) (fx4s_k : Nat → Int32) (fx4s_b : Nat → Int32) (x2s : Nat) (x2y : Nat) (x2q : Nat) (x2s_l : Nat) (x2s_c : Nat) (x2s_g : Nat) (x2s_r : Nat) (x2s_k : Nat) (x2s_b : Nat) (fx2s_l : Nat → Int32) (fx2s_c : Nat → Int32) (fx2s_g : Nat → Int32) (fx2s_r : Nat → Int64) (fx2s_k : Nat → Int32) (fx2s_b : Nat → Int32) (fa : Nat → Int32) (ou : Nat) (ha0 : fa 0 = 0) (ha1 : fa 1 = 0) (ha2 : fa 2 = 10) (ha3 : fa 3 = 10) (ha4 : fa 4 = 3) (hz : ∀ j, j < 5 → fx2s_g j = 0) (hs0 : ¬ xs 1 < 0) (hs1 : ¬ 9999 < xs 1) (hs2 : ¬ xs 2 < 1) (hs3 : ¬ 99 < xs 2) (hv : xs 3 = 0) (H : Heap) (locs : List Loc) (hw : kW γ A [(x, .inr (10, [.ref x0, .ref x1, .ref x2, .ref x3, .ref x4, .ref x5, .ref x6, .ref x7, .ref x8, .ref x9, .ref x10])), (z, .inr (11, [.int 0, .int 0, .ref z2, .int 0, .int 0, .int 0, .int 0, .long 0, .int 0, .int 0, .ref z10, .ref z11, .ref z12, .ref z13, .ref z14, .ref z15, .ref z16, .ref z17, .ref z18, .ref z19, .int 0, .int 0, .ref z22, .ref z23, .ref z24, .ref z25, .ref z26, .ref z27, .ref z28, .ref z29, .ref z30, .ref z31, .ref z32, .ref z33, .int 0, .long 0, .ref z36, .ref z37, .ref z38, .ref z39, .ref z40, .ref z41, .ref z42, .ref z43, .ref z44, .ref z45, .ref z46, .ref z47, .ref z48, .int 0, .int 10, .int 0, .int 0, .int 0, .int 0, .ref z55, .ref z56, .int 0, .int 0, .ref z59, .ref z60, .ref z61, .int 0, .long 0])), (x9, .inr (0, [.ref x90, .ref x91, .ref x92, .ref x93, .ref x94, .ref x95, .ref x96, .ref x97, .int 0, .int 0, .int 10, .int 10, .int 3, .int 0, .int 0, .int 0, .int 0, .int 0, .int 0])), (x4, .inr (2, [.ref x4s, .int 0, .int 0, .int 0, .long 0])), (x4s, .inr (7, [.ref x4s_l, .ref x4s_c, .ref x4s_g, .ref x4s_r, .ref x4s_k, .ref x4s_b, .int 0, .int 0, .int 0])), (x4s_l, .inl (γ.2.1 0, 5, .inl fx4s_l)), (x4s_c, .inl (γ.2.1 0, 5, .inl fx4s_c)), (x4s_g, .inl (γ.2.1 0, 5, .inl fx4s_g)), (x4s_r, .inl (γ.2.1 1, 5, .inr (.inl fx4s_r))), (x4s_k, .inl (γ.2.1 0, 40, .inl fx4s_k)), (x4s_b, .inl (γ.2.1 0, 8, .inl fx4s_b)), (x2, .inr (3, [.ref x2s, .ref x2y, .ref x2q, .int 0, .int 0, .int 0])), (x2s, .inr (7, [.ref x2s_l, .ref x2s_c, .ref x2s_g, .ref x2s_r, .ref x2s_k, .ref x2s_b, .int 0, .int 0, .int 0])), (x2s_l, .inl (γ.2.1 0, 5, .inl fx2s_l)), (x2s_c, .inl (γ.2.1 0, 5, .inl fx2s_c)), (x2s_g, .inl (γ.2.1 0, 5, .inl fx2s_g)), (x2s_r, .inl (γ.2.1 1, 5, .inr (.inl fx2s_r))), (x2s_k, .inl (γ.2.1 0, 40, .inl fx2s_k)), (x2s_b, .inl (γ.2.1 0, 8, .inl fx2s_b)), (z10, .inl (γ.2.1 0, 10, .inl fa)), (z43, .inl (γ.2.1 0, 133, .inl (fun _ => 0))), (z44, .inl (γ.2.1 0, 133, .inl (fun _ => 0))), (ou, .inl (γ.2.1 1, 1, .inr (.inl (fun _ => 0))))] s H locs) (ls : Array Slot) (hl : lv_has ls 7 [(4, .int 0), (3, .ref ou), (2, .ref z), (1, .ref x), (0, .ref b)]) : W p l e room_1 s m [Value.ref b].toArray below meth c H locs 251 13922 (lw_Z below #[Value.ref b] s) (F0 m 1212 ls []) := by
  have hx := hC.1
  have hb := hC.2.1
  refine lv_aload_n hx hb dL_law_1212 rfl (lv_at hl 3 rfl) ?_
  refine lv_aload_n hx hb dL_law_1213 rfl (lv_at hl 4 rfl) ?_
  refine lv_iload hx hb dL_law_1214 (lv_at hl 0 rfl) ?_
  refine lv_iconst (v := 1) hx hb dL_law_1216 (by decide) ?_
  refine lv_iadd hx hb dL_law_1217 ?_
  refine lv_topi (fun x_2263 ex_2263 => ?_)
  obtain rfl : x_2263 = 1 := ex_2263.trans (by decide)
  refine va_sld hx hb hX hbl hbA hw.2.2 (k_in0 (by decide)) dL_law_1218 ?_
  refine lv_topi (fun x_2264 ex_2264 => ?_)
  obtain rfl : x_2264 = xs 1 := ex_2264
  refine lv_aload_n hx hb dL_law_1219 rfl (lv_at hl 4 rfl) ?_
  refine lv_iload hx hb dL_law_1220 (lv_at hl 0 rfl) ?_
  refine lv_iconst (v := 2) hx hb dL_law_1222 (by decide) ?_
  refine lv_iadd hx hb dL_law_1223 ?_
  refine lv_topi (fun x_2265 ex_2265 => ?_)
  obtain rfl : x_2265 = 2 := ex_2265.trans (by decide)
  refine va_sld hx hb hX hbl hbA hw.2.2 (k_in0 (by decide)) dL_law_1224 ?_
  refine lv_topi (fun x_2266 ex_2266 => ?_)
  obtain rfl : x_2266 = xs 2 := ex_2266
  refine lv_aload_n hx hb dL_law_1225 rfl (lv_at hl 4 rfl) ?_
  refine lv_iload hx hb dL_law_1226 (lv_at hl 0 rfl) ?_
  refine lv_iconst (v := 3) hx hb dL_law_1228 (by decide) ?_
  refine lv_iadd hx hb dL_law_1229 ?_
  refine lv_topi (fun x_2267 ex_2267 => ?_)
  obtain rfl : x_2267 = 3 := ex_2267.trans (by decide)
  refine va_sld hx hb hX hbl hbA hw.2.2 (k_in0 (by decide)) dL_law_1230 ?_
  refine lv_topi (fun x_2268 ex_2268 => ?_)
  obtain rfl : x_2268 = 0 := (show x_2268 = xs 3 from ex_2268).trans hv
  refine lv_aload_n hx hb dL_law_1231 rfl (lv_at hl 1 rfl) ?_
  refine k_SW (wr := [(z, .inr (11, [.int 0, .int 0, .ref z2, .int 0, .int 0, .int 0, .int 0, .long 0, .int 0, .int 0, .ref z10, .ref z11, .ref z12, .ref z13, .ref z14, .ref z15, .ref z16, .ref z17, .ref z18, .ref z19, .int 0, .int 0, .ref z22, .ref z23, .ref z24, .ref z25, .ref z26, .ref z27, .ref z28, .ref z29, .ref z30, .ref z31, .ref z32, .ref z33, .int 0, .long 0, .ref z36, .ref z37, .ref z38, .ref z39, .ref z40, .ref z41, .ref z42, .ref z43, .ref z44, .ref z45, .ref z46, .ref z47, .ref z48, .int 0, .int 10, .int 0, .int 0, .int 0, .int 0, .ref z55, .ref z56, .int 0, .int 0, .ref z59, .ref z60, .ref z61, .int 0, .long 0])), (z10, .inl (γ.2.1 0, 10, .inl fa)), (z43, .inl (γ.2.1 0, 133, .inl (fun _ => 0))), (z44, .inl (γ.2.1 0, 133, .inl (fun _ => 0)))]) 5 gw_1162 gw_1163 gw_0 gw_1164 hd_L_lives hC hw (c_L_lives_0 γ l hl9 x x0 x1 x2 x3 x4 x5 x6 x7 x8 x9 x10 x90 x91 x92 x93 x94 x95 x96 x97 x4s x4s_l x4s_c x4s_g x4s_r x4s_k x4s_b fx4s_l fx4s_c fx4s_g fx4s_r fx4s_k fx4s_b x2s x2y x2q x2s_l x2s_c x2s_g x2s_r x2s_k x2s_b fx2s_l fx2s_c fx2s_g fx2s_r fx2s_k fx2s_b (xs 1) (xs 2) ou (fun _ => 0) hs0 hs1 hs2 hs3 hz) ⟨by decide, by decide⟩ ⟨by decide, by decide⟩ hl.1 rfl rfl (Nat.le_of_ble_eq_true rfl) [0, 2, 3, 4, 5, 6, 7, 8, 9, 10, 11, 12, 13, 14, 15, 16, 17, 18, 22] [1, 19, 20, 21] rfl rfl rfl rfl (by decide) dL_law_1232 (fun r w1 H locs hq hw => ?_)
  obtain ⟨fo9_2269, rfl, rfl, g_2270⟩ := hq
  have hw : kW γ A [(z, .inr (11, [.int 0, .int 0, .ref z2, .int 0, .int 0, .int 0, .int 0, .long 0, .int 0, .int 0, .ref z10, .ref z11, .ref z12, .ref z13, .ref z14, .ref z15, .ref z16, .ref z17, .ref z18, .ref z19, .int 0, .int 0, .ref z22, .ref z23, .ref z24, .ref z25, .ref z26, .ref z27, .ref z28, .ref z29, .ref z30, .ref z31, .ref z32, .ref z33, .int 0, .long 0, .ref z36, .ref z37, .ref z38, .ref z39, .ref z40, .ref z41, .ref z42, .ref z43, .ref z44, .ref z45, .ref z46, .ref z47, .ref z48, .int 0, .int 10, .int 0, .int 0, .int 0, .int 0, .ref z55, .ref z56, .int 0, .int 0, .ref z59, .ref z60, .ref z61, .int 0, .long 0])), (z10, .inl (γ.2.1 0, 10, .inl fa)), (z43, .inl (γ.2.1 0, 133, .inl (fun _ => 0))), (z44, .inl (γ.2.1 0, 133, .inl (fun _ => 0))), (ou, .inl (γ.2.1 1, 1, .inr (.inl fo9_2269)))] s H locs := hw
  refine W.eq (g2 := F0 m 1235 ls [.int 0]) rfl ?_
  refine lv_istore (lv' := [(5, .int 0), (4, .int 0), (3, .ref ou), (2, .ref z), (1, .ref x), (0, .ref b)]) hx hb dL_law_1235 hl (by decide) rfl (fun ls hl => ?_)
  refine lv_aload_n hx hb dL_law_1237 rfl (lv_at hl 3 rfl) ?_
  refine lv_aload_n hx hb dL_law_1238 rfl (lv_at hl 5 rfl) ?_
  refine lv_iload hx hb dL_law_1239 (lv_at hl 1 rfl) ?_
  refine lv_iconst (v := 1) hx hb dL_law_1241 (by decide) ?_
  refine lv_iadd hx hb dL_law_1242 ?_
  refine lv_topi (fun x_2271 ex_2271 => ?_)
  obtain rfl : x_2271 = 1 := ex_2271.trans (by decide)
  refine va_sld hx hb hX hbl hbA hw.2.2 (k_in0 (by decide)) dL_law_1243 ?_
  refine lv_topi (fun x_2272 ex_2272 => ?_)
  obtain rfl : x_2272 = xs 1 := ex_2272
  refine lv_aload_n hx hb dL_law_1244 rfl (lv_at hl 5 rfl) ?_
  refine lv_iload hx hb dL_law_1245 (lv_at hl 1 rfl) ?_
  refine lv_iconst (v := 2) hx hb dL_law_1247 (by decide) ?_
  refine lv_iadd hx hb dL_law_1248 ?_
  refine lv_topi (fun x_2273 ex_2273 => ?_)
  obtain rfl : x_2273 = 2 := ex_2273.trans (by decide)
  refine va_sld hx hb hX hbl hbA hw.2.2 (k_in0 (by decide)) dL_law_1249 ?_
  refine lv_topi (fun x_2274 ex_2274 => ?_)
  obtain rfl : x_2274 = xs 2 := ex_2274
  refine lv_aload_n hx hb dL_law_1250 rfl (lv_at hl 5 rfl) ?_
  refine lv_iload hx hb dL_law_1251 (lv_at hl 1 rfl) ?_
  refine lv_iconst (v := 3) hx hb dL_law_1253 (by decide) ?_
  refine lv_iadd hx hb dL_law_1254 ?_
  refine lv_topi (fun x_2275 ex_2275 => ?_)
  obtain rfl : x_2275 = 3 := ex_2275.trans (by decide)
  refine va_sld hx hb hX hbl hbA hw.2.2 (k_in0 (by decide)) dL_law_1255 ?_
  refine lv_topi (fun x_2276 ex_2276 => ?_)
  obtain rfl : x_2276 = 0 := (show x_2276 = xs 3 from ex_2276).trans hv
  refine k_V (wr := [(ou, .inl (γ.2.1 1, 1, .inr (.inl fo9_2269)))]) 3 gw_1787 gw_1788 gw_1789 gw_15 gw_1790 hd_X12_lives hC hw (c_X12_lives_0 γ l z z2 z10 z11 z12 z13 z14 z15 z16 z17 z18 z19 z22 z23 z24 z25 z26 z27 z28 z29 z30 z31 z32 z33 z36 z37 z38 z39 z40 z41 z42 z43 z44 z45 z46 z47 z48 z55 z56 z59 z60 z61 fa (xs 1) (xs 2) (fun _ => 0) (fun _ => 0) ha0 ha1 ha2 ha3 ha4 hs0 hs1 hs2 hs3) ⟨by decide, by decide⟩ ⟨by decide, by decide⟩ hl.1 rfl 0 rfl rfl rfl (Nat.le_of_ble_eq_true rfl) [0, 1, 2, 3] [4] rfl rfl rfl rfl (by decide) dL_law_1256 (fun r w1 H locs hq hw => ?_)
  obtain ⟨gx_2277, rfl, rfl⟩ := hq
  have hw : kW γ A [(ou, .inl (γ.2.1 1, 1, .inr (.inl fo9_2269))), (z, .inr (11, [.int 0, .int 0, .ref z2, .int 0, .int 0, .int 0, .int 0, .long 0, .int 0, .int 0, .ref z10, .ref z11, .ref z12, .ref z13, .ref z14, .ref z15, .ref z16, .ref z17, .ref z18, .ref z19, .int 0, .int 0, .ref z22, .ref z23, .ref z24, .ref z25, .ref z26, .ref z27, .ref z28, .ref z29, .ref z30, .ref z31, .ref z32, .ref z33, .int 0, .long 0, .ref z36, .ref z37, .ref z38, .ref z39, .ref z40, .ref z41, .ref z42, .ref z43, .ref z44, .ref z45, .ref z46, .ref z47, .ref z48, .int 0, .int 10, .int 0, .int 0, .int 0, .int 0, .ref z55, .ref z56, .int 0, .int 0, .ref z59, .ref z60, .ref z61, .int 0, .long gx_2277]))] s H locs := hw
  refine W.eq (g2 := F0 m 1259 ls [.int 0]) rfl ?_
  refine lv_istore (lv' := [(6, .int 0), (5, .int 0), (4, .int 0), (3, .ref ou), (2, .ref z), (1, .ref x), (0, .ref b)]) hx hb dL_law_1259 hl (by decide) rfl (fun ls hl => ?_)
  refine lv_aload_n hx hb dL_law_1261 rfl (lv_at hl 4 rfl) ?_
  refine k_V (wr := [(ou, .inl (γ.2.1 1, 1, .inr (.inl fo9_2269)))]) 0 gw_1385 gw_1386 gw_1387 gw_15 gw_1388 hd_X12_thrown hC hw (c_X12_thrown γ l z z2 z10 z11 z12 z13 z14 z15 z16 z17 z18 z19 z22 z23 z24 z25 z26 z27 z28 z29 z30 z31 z32 z33 z36 z37 z38 z39 z40 z41 z42 z43 z44 z45 z46 z47 z48 z55 z56 z59 z60 z61 0 0 0 0 0 0 0 0 0 0 0 0 0 10 0 0 0 0 0 0 0 gx_2277 0) ⟨by decide, by decide⟩ ⟨by decide, by decide⟩ hl.1 rfl 1 rfl rfl rfl (Nat.le_of_ble_eq_true rfl) [1] [0] rfl rfl rfl rfl (by decide) dL_law_1262 (fun r w1 H locs hq hw => ?_)
  obtain ⟨rfl, rfl⟩ := hq
  have hw : kW γ A [(ou, .inl (γ.2.1 1, 1, .inr (.inl fo9_2269)))] s H locs := hw
  refine W.eq (g2 := F0 m 1265 ls [.int 0]) rfl ?_
  refine lv_iload hx hb dL_law_1265 (lv_at hl 1 rfl) ?_
  refine lv_icmp_eq (tgt := 1272) hx hb dL_law_1267 (by decide) (fun _ => ?_) (fun h => absurd (by decide) h)
  refine lv_iload hx hb dL_law_1272 (lv_at hl 1 rfl) ?_
  refine lv_if_ne (tgt := 1289) hx hb dL_law_1274 (by decide) (fun h => absurd rfl h) (fun _ => ?_)
  refine lv_aload_n hx hb dL_law_1277 rfl (lv_at hl 3 rfl) ?_
  refine lv_iconst (v := 0) hx hb dL_law_1278 (by decide) ?_
  refine k_lald hC hw 0 rfl (k_in0 (by decide)) dL_law_1279 ?_
  refine lv_topl (fun x_2278 ex_2278 => ?_)
  obtain rfl : x_2278 = (0 : Int32).toInt64 := (show x_2278 = fo9_2269 0 from ex_2278).trans g_2270
  refine lv_iload hx hb dL_law_1280 (lv_at hl 0 rfl) ?_
  refine lv_i2l hx hb dL_law_1282 rfl ?_
  refine lv_topl (fun x_2279 ex_2279 => ?_)
  obtain rfl : x_2279 = (0 : Int32).toInt64 := ex_2279
  refine W.lcmp hx hb dL_law_1283 ?_
  refine lv_topi (fun x_2280 ex_2280 => ?_)
  obtain rfl : x_2280 = 0 := ex_2280.trans (k_cmp_self _)
  refine lv_if_eq (tgt := 1289) hx hb dL_law_1284 (by decide) (fun _ => ?_) (fun h => absurd (by decide) h)
  refine lv_goto (tgt := 1370) hx hb dL_law_1289 (by decide) ?_
  exact law_end hC hr hlocks hX hbl hbA hAs hl9 _ _ (kW.sub hw [] rfl rfl) (by decide) (by decide) _ (lv_sub hl [2, 6] rfl)

set_option maxHeartbeats 4000000 in
set_option maxRecDepth 100000 in
theorem lc_29_1 {γ : kΓ} {l : Launch} {p : Program} {e : Env} {s : State} {m : MethodId} {below : List Frame} {meth : Method} {c : Code} {A : Nat → Prop} {b : Nat} {xs : Nat → Int32} (hC : kC γ p s m [Value.ref b].toArray c code 7 RL A) (hr : meth.sig.returnType = ret) (hlocks : meth.locks = false) (hX : va_X b 7 xs s s.heap) (hbl : b < s.heap.size) (hbA : ¬ A b) (hAs : ∀ q, A q → s.heap.size ≤ q) (hl9 : l.stackTraces = false) (x : Nat) (x0 : Nat) (x1 : Nat) (x2 : Nat) (x3 : Nat) (x4 : Nat) (x5 : Nat) (x6 : Nat) (x7 : Nat) (x8 : Nat) (x9 : Nat) (x10 : Nat) (z : Nat) (z2 : Nat) (z10 : Nat) (z11 : Nat) (z12 : Nat) (z13 : Nat) (z14 : Nat) (z15 : Nat) (z16 : Nat) (z17 : Nat) (z18 : Nat) (z19 : Nat) (z22 : Nat) (z23 : Nat) (z24 : Nat) (z25 : Nat) (z26 : Nat) (z27 : Nat) (z28 : Nat) (z29 : Nat) (z30 : Nat) (z31 : Nat) (z32 : Nat) (z33 : Nat) (z36 : Nat) (z37 : Nat) (z38 : Nat) (z39 : Nat) (z40 : Nat) (z41 : Nat) (z42 : Nat) (z43 : Nat) (z44 : Nat) (z45 : Nat) (z46 : Nat) (z47 : Nat) (z48 : Nat) (z55 : Nat) (z56 : Nat) (z59 : Nat) (z60 : Nat) (z61 : Nat) (x90 : Nat) (x91 : Nat) (x92 : Nat) (x93 : Nat) (x94 : Nat) (x95 : Nat) (x96 : Nat) (x97 : Nat) (x4s : Nat) (x4s_l : Nat) (x4s_c : Nat) (x4s_g : Nat) (x4s_r : Nat) (x4s_k : Nat) (x4s_b : Nat) (fx4s_l : Nat → Int32) (fx4s_c : Nat → Int32) (fx4s_g : Nat → Int32) (fx4s_r : Nat → Int64) (fx4s_k : Nat → Int32) (fx4s_b : Nat → Int32) (x2s : Nat) (x2y : Nat) (x2q : Nat) (x2s_l : Nat) (x2s_c : Nat) (x2s_g : Nat) (x2s_r : Nat) (x2s_k : Nat) (x2s_b : Nat) (fx2s_l : Nat → Int32) (fx2s_c : Nat → Int32) (fx2s_g : Nat → Int32) (fx2s_r : Nat → Int64) (fx2s_k : Nat → Int32) (fx2s_b : Nat → Int32) (fa : Nat → Int32) (ou : Nat) (ha0 : fa 0 = 0) (ha1 : fa 1 = 0) (ha2 : fa 2 = 10) (ha3 : fa 3 = 10) (ha4 : fa 4 = 3) (hz : ∀ j, j < 5 → fx2s_g j = 0) (hs0 : ¬ xs 1 < 0) (hs1 : ¬ 9999 < xs 1) (hs2 : ¬ xs 2 < 1) (hs3 : ¬ 99 < xs 2) (hv : xs 3 = 1) (H : Heap) (locs : List Loc) (hw : kW γ A [(x, .inr (10, [.ref x0, .ref x1, .ref x2, .ref x3, .ref x4, .ref x5, .ref x6, .ref x7, .ref x8, .ref x9, .ref x10])), (z, .inr (11, [.int 0, .int 0, .ref z2, .int 0, .int 0, .int 0, .int 0, .long 0, .int 0, .int 0, .ref z10, .ref z11, .ref z12, .ref z13, .ref z14, .ref z15, .ref z16, .ref z17, .ref z18, .ref z19, .int 0, .int 0, .ref z22, .ref z23, .ref z24, .ref z25, .ref z26, .ref z27, .ref z28, .ref z29, .ref z30, .ref z31, .ref z32, .ref z33, .int 0, .long 0, .ref z36, .ref z37, .ref z38, .ref z39, .ref z40, .ref z41, .ref z42, .ref z43, .ref z44, .ref z45, .ref z46, .ref z47, .ref z48, .int 0, .int 10, .int 0, .int 0, .int 0, .int 0, .ref z55, .ref z56, .int 0, .int 0, .ref z59, .ref z60, .ref z61, .int 0, .long 0])), (x9, .inr (0, [.ref x90, .ref x91, .ref x92, .ref x93, .ref x94, .ref x95, .ref x96, .ref x97, .int 0, .int 0, .int 10, .int 10, .int 3, .int 0, .int 0, .int 0, .int 0, .int 0, .int 0])), (x4, .inr (2, [.ref x4s, .int 0, .int 0, .int 0, .long 0])), (x4s, .inr (7, [.ref x4s_l, .ref x4s_c, .ref x4s_g, .ref x4s_r, .ref x4s_k, .ref x4s_b, .int 0, .int 0, .int 0])), (x4s_l, .inl (γ.2.1 0, 5, .inl fx4s_l)), (x4s_c, .inl (γ.2.1 0, 5, .inl fx4s_c)), (x4s_g, .inl (γ.2.1 0, 5, .inl fx4s_g)), (x4s_r, .inl (γ.2.1 1, 5, .inr (.inl fx4s_r))), (x4s_k, .inl (γ.2.1 0, 40, .inl fx4s_k)), (x4s_b, .inl (γ.2.1 0, 8, .inl fx4s_b)), (x2, .inr (3, [.ref x2s, .ref x2y, .ref x2q, .int 0, .int 0, .int 0])), (x2s, .inr (7, [.ref x2s_l, .ref x2s_c, .ref x2s_g, .ref x2s_r, .ref x2s_k, .ref x2s_b, .int 0, .int 0, .int 0])), (x2s_l, .inl (γ.2.1 0, 5, .inl fx2s_l)), (x2s_c, .inl (γ.2.1 0, 5, .inl fx2s_c)), (x2s_g, .inl (γ.2.1 0, 5, .inl fx2s_g)), (x2s_r, .inl (γ.2.1 1, 5, .inr (.inl fx2s_r))), (x2s_k, .inl (γ.2.1 0, 40, .inl fx2s_k)), (x2s_b, .inl (γ.2.1 0, 8, .inl fx2s_b)), (z10, .inl (γ.2.1 0, 10, .inl fa)), (z43, .inl (γ.2.1 0, 133, .inl (fun _ => 0))), (z44, .inl (γ.2.1 0, 133, .inl (fun _ => 0))), (ou, .inl (γ.2.1 1, 1, .inr (.inl (fun _ => 0))))] s H locs) (ls : Array Slot) (hl : lv_has ls 7 [(4, .int 0), (3, .ref ou), (2, .ref z), (1, .ref x), (0, .ref b)]) : W p l e room_1 s m [Value.ref b].toArray below meth c H locs 251 13922 (lw_Z below #[Value.ref b] s) (F0 m 1212 ls []) := by
  have hx := hC.1
  have hb := hC.2.1
  refine lv_aload_n hx hb dL_law_1212 rfl (lv_at hl 3 rfl) ?_
  refine lv_aload_n hx hb dL_law_1213 rfl (lv_at hl 4 rfl) ?_
  refine lv_iload hx hb dL_law_1214 (lv_at hl 0 rfl) ?_
  refine lv_iconst (v := 1) hx hb dL_law_1216 (by decide) ?_
  refine lv_iadd hx hb dL_law_1217 ?_
  refine lv_topi (fun x_2281 ex_2281 => ?_)
  obtain rfl : x_2281 = 1 := ex_2281.trans (by decide)
  refine va_sld hx hb hX hbl hbA hw.2.2 (k_in0 (by decide)) dL_law_1218 ?_
  refine lv_topi (fun x_2282 ex_2282 => ?_)
  obtain rfl : x_2282 = xs 1 := ex_2282
  refine lv_aload_n hx hb dL_law_1219 rfl (lv_at hl 4 rfl) ?_
  refine lv_iload hx hb dL_law_1220 (lv_at hl 0 rfl) ?_
  refine lv_iconst (v := 2) hx hb dL_law_1222 (by decide) ?_
  refine lv_iadd hx hb dL_law_1223 ?_
  refine lv_topi (fun x_2283 ex_2283 => ?_)
  obtain rfl : x_2283 = 2 := ex_2283.trans (by decide)
  refine va_sld hx hb hX hbl hbA hw.2.2 (k_in0 (by decide)) dL_law_1224 ?_
  refine lv_topi (fun x_2284 ex_2284 => ?_)
  obtain rfl : x_2284 = xs 2 := ex_2284
  refine lv_aload_n hx hb dL_law_1225 rfl (lv_at hl 4 rfl) ?_
  refine lv_iload hx hb dL_law_1226 (lv_at hl 0 rfl) ?_
  refine lv_iconst (v := 3) hx hb dL_law_1228 (by decide) ?_
  refine lv_iadd hx hb dL_law_1229 ?_
  refine lv_topi (fun x_2285 ex_2285 => ?_)
  obtain rfl : x_2285 = 3 := ex_2285.trans (by decide)
  refine va_sld hx hb hX hbl hbA hw.2.2 (k_in0 (by decide)) dL_law_1230 ?_
  refine lv_topi (fun x_2286 ex_2286 => ?_)
  obtain rfl : x_2286 = 1 := (show x_2286 = xs 3 from ex_2286).trans hv
  refine lv_aload_n hx hb dL_law_1231 rfl (lv_at hl 1 rfl) ?_
  refine k_SW (wr := [(z, .inr (11, [.int 0, .int 0, .ref z2, .int 0, .int 0, .int 0, .int 0, .long 0, .int 0, .int 0, .ref z10, .ref z11, .ref z12, .ref z13, .ref z14, .ref z15, .ref z16, .ref z17, .ref z18, .ref z19, .int 0, .int 0, .ref z22, .ref z23, .ref z24, .ref z25, .ref z26, .ref z27, .ref z28, .ref z29, .ref z30, .ref z31, .ref z32, .ref z33, .int 0, .long 0, .ref z36, .ref z37, .ref z38, .ref z39, .ref z40, .ref z41, .ref z42, .ref z43, .ref z44, .ref z45, .ref z46, .ref z47, .ref z48, .int 0, .int 10, .int 0, .int 0, .int 0, .int 0, .ref z55, .ref z56, .int 0, .int 0, .ref z59, .ref z60, .ref z61, .int 0, .long 0])), (z10, .inl (γ.2.1 0, 10, .inl fa)), (z43, .inl (γ.2.1 0, 133, .inl (fun _ => 0))), (z44, .inl (γ.2.1 0, 133, .inl (fun _ => 0)))]) 5 gw_1162 gw_1163 gw_0 gw_1164 hd_L_lives hC hw (c_L_lives_1 γ l hl9 x x0 x1 x2 x3 x4 x5 x6 x7 x8 x9 x10 x90 x91 x92 x93 x94 x95 x96 x97 x4s x4s_l x4s_c x4s_g x4s_r x4s_k x4s_b fx4s_l fx4s_c fx4s_g fx4s_r fx4s_k fx4s_b x2s x2y x2q x2s_l x2s_c x2s_g x2s_r x2s_k x2s_b fx2s_l fx2s_c fx2s_g fx2s_r fx2s_k fx2s_b (xs 1) (xs 2) ou (fun _ => 0) hs0 hs1 hs2 hs3 hz) ⟨by decide, by decide⟩ ⟨by decide, by decide⟩ hl.1 rfl rfl (Nat.le_of_ble_eq_true rfl) [0, 2, 3, 4, 5, 6, 7, 8, 9, 10, 11, 12, 13, 14, 15, 16, 17, 18, 22] [1, 19, 20, 21] rfl rfl rfl rfl (by decide) dL_law_1232 (fun r w1 H locs hq hw => ?_)
  obtain ⟨fo9_2287, rfl, rfl, g_2288⟩ := hq
  have hw : kW γ A [(z, .inr (11, [.int 0, .int 0, .ref z2, .int 0, .int 0, .int 0, .int 0, .long 0, .int 0, .int 0, .ref z10, .ref z11, .ref z12, .ref z13, .ref z14, .ref z15, .ref z16, .ref z17, .ref z18, .ref z19, .int 0, .int 0, .ref z22, .ref z23, .ref z24, .ref z25, .ref z26, .ref z27, .ref z28, .ref z29, .ref z30, .ref z31, .ref z32, .ref z33, .int 0, .long 0, .ref z36, .ref z37, .ref z38, .ref z39, .ref z40, .ref z41, .ref z42, .ref z43, .ref z44, .ref z45, .ref z46, .ref z47, .ref z48, .int 0, .int 10, .int 0, .int 0, .int 0, .int 0, .ref z55, .ref z56, .int 0, .int 0, .ref z59, .ref z60, .ref z61, .int 0, .long 0])), (z10, .inl (γ.2.1 0, 10, .inl fa)), (z43, .inl (γ.2.1 0, 133, .inl (fun _ => 0))), (z44, .inl (γ.2.1 0, 133, .inl (fun _ => 0))), (ou, .inl (γ.2.1 1, 1, .inr (.inl fo9_2287)))] s H locs := hw
  refine W.eq (g2 := F0 m 1235 ls [.int 0]) rfl ?_
  refine lv_istore (lv' := [(5, .int 0), (4, .int 0), (3, .ref ou), (2, .ref z), (1, .ref x), (0, .ref b)]) hx hb dL_law_1235 hl (by decide) rfl (fun ls hl => ?_)
  refine lv_aload_n hx hb dL_law_1237 rfl (lv_at hl 3 rfl) ?_
  refine lv_aload_n hx hb dL_law_1238 rfl (lv_at hl 5 rfl) ?_
  refine lv_iload hx hb dL_law_1239 (lv_at hl 1 rfl) ?_
  refine lv_iconst (v := 1) hx hb dL_law_1241 (by decide) ?_
  refine lv_iadd hx hb dL_law_1242 ?_
  refine lv_topi (fun x_2289 ex_2289 => ?_)
  obtain rfl : x_2289 = 1 := ex_2289.trans (by decide)
  refine va_sld hx hb hX hbl hbA hw.2.2 (k_in0 (by decide)) dL_law_1243 ?_
  refine lv_topi (fun x_2290 ex_2290 => ?_)
  obtain rfl : x_2290 = xs 1 := ex_2290
  refine lv_aload_n hx hb dL_law_1244 rfl (lv_at hl 5 rfl) ?_
  refine lv_iload hx hb dL_law_1245 (lv_at hl 1 rfl) ?_
  refine lv_iconst (v := 2) hx hb dL_law_1247 (by decide) ?_
  refine lv_iadd hx hb dL_law_1248 ?_
  refine lv_topi (fun x_2291 ex_2291 => ?_)
  obtain rfl : x_2291 = 2 := ex_2291.trans (by decide)
  refine va_sld hx hb hX hbl hbA hw.2.2 (k_in0 (by decide)) dL_law_1249 ?_
  refine lv_topi (fun x_2292 ex_2292 => ?_)
  obtain rfl : x_2292 = xs 2 := ex_2292
  refine lv_aload_n hx hb dL_law_1250 rfl (lv_at hl 5 rfl) ?_
  refine lv_iload hx hb dL_law_1251 (lv_at hl 1 rfl) ?_
  refine lv_iconst (v := 3) hx hb dL_law_1253 (by decide) ?_
  refine lv_iadd hx hb dL_law_1254 ?_
  refine lv_topi (fun x_2293 ex_2293 => ?_)
  obtain rfl : x_2293 = 3 := ex_2293.trans (by decide)
  refine va_sld hx hb hX hbl hbA hw.2.2 (k_in0 (by decide)) dL_law_1255 ?_
  refine lv_topi (fun x_2294 ex_2294 => ?_)
  obtain rfl : x_2294 = 1 := (show x_2294 = xs 3 from ex_2294).trans hv
  refine k_V (wr := [(ou, .inl (γ.2.1 1, 1, .inr (.inl fo9_2287)))]) 3 gw_1787 gw_1788 gw_1789 gw_15 gw_1790 hd_X12_lives hC hw (c_X12_lives_1 γ l z z2 z10 z11 z12 z13 z14 z15 z16 z17 z18 z19 z22 z23 z24 z25 z26 z27 z28 z29 z30 z31 z32 z33 z36 z37 z38 z39 z40 z41 z42 z43 z44 z45 z46 z47 z48 z55 z56 z59 z60 z61 fa (xs 1) (xs 2) (fun _ => 0) (fun _ => 0) ha0 ha1 ha2 ha3 ha4 hs0 hs1 hs2 hs3) ⟨by decide, by decide⟩ ⟨by decide, by decide⟩ hl.1 rfl 0 rfl rfl rfl (Nat.le_of_ble_eq_true rfl) [0, 1, 2, 3] [4] rfl rfl rfl rfl (by decide) dL_law_1256 (fun r w1 H locs hq hw => ?_)
  obtain ⟨gx_2295, rfl, rfl⟩ := hq
  have hw : kW γ A [(ou, .inl (γ.2.1 1, 1, .inr (.inl fo9_2287))), (z, .inr (11, [.int 0, .int 0, .ref z2, .int 0, .int 0, .int 0, .int 0, .long 0, .int 0, .int 0, .ref z10, .ref z11, .ref z12, .ref z13, .ref z14, .ref z15, .ref z16, .ref z17, .ref z18, .ref z19, .int 0, .int 0, .ref z22, .ref z23, .ref z24, .ref z25, .ref z26, .ref z27, .ref z28, .ref z29, .ref z30, .ref z31, .ref z32, .ref z33, .int 0, .long 0, .ref z36, .ref z37, .ref z38, .ref z39, .ref z40, .ref z41, .ref z42, .ref z43, .ref z44, .ref z45, .ref z46, .ref z47, .ref z48, .int 0, .int 10, .int 0, .int 0, .int 0, .int 0, .ref z55, .ref z56, .int 0, .int 0, .ref z59, .ref z60, .ref z61, .int 0, .long gx_2295]))] s H locs := hw
  refine W.eq (g2 := F0 m 1259 ls [.int 0]) rfl ?_
  refine lv_istore (lv' := [(6, .int 0), (5, .int 0), (4, .int 0), (3, .ref ou), (2, .ref z), (1, .ref x), (0, .ref b)]) hx hb dL_law_1259 hl (by decide) rfl (fun ls hl => ?_)
  refine lv_aload_n hx hb dL_law_1261 rfl (lv_at hl 4 rfl) ?_
  refine k_V (wr := [(ou, .inl (γ.2.1 1, 1, .inr (.inl fo9_2287)))]) 0 gw_1385 gw_1386 gw_1387 gw_15 gw_1388 hd_X12_thrown hC hw (c_X12_thrown γ l z z2 z10 z11 z12 z13 z14 z15 z16 z17 z18 z19 z22 z23 z24 z25 z26 z27 z28 z29 z30 z31 z32 z33 z36 z37 z38 z39 z40 z41 z42 z43 z44 z45 z46 z47 z48 z55 z56 z59 z60 z61 0 0 0 0 0 0 0 0 0 0 0 0 0 10 0 0 0 0 0 0 0 gx_2295 0) ⟨by decide, by decide⟩ ⟨by decide, by decide⟩ hl.1 rfl 1 rfl rfl rfl (Nat.le_of_ble_eq_true rfl) [1] [0] rfl rfl rfl rfl (by decide) dL_law_1262 (fun r w1 H locs hq hw => ?_)
  obtain ⟨rfl, rfl⟩ := hq
  have hw : kW γ A [(ou, .inl (γ.2.1 1, 1, .inr (.inl fo9_2287)))] s H locs := hw
  refine W.eq (g2 := F0 m 1265 ls [.int 0]) rfl ?_
  refine lv_iload hx hb dL_law_1265 (lv_at hl 1 rfl) ?_
  refine lv_icmp_eq (tgt := 1272) hx hb dL_law_1267 (by decide) (fun _ => ?_) (fun h => absurd (by decide) h)
  refine lv_iload hx hb dL_law_1272 (lv_at hl 1 rfl) ?_
  refine lv_if_ne (tgt := 1289) hx hb dL_law_1274 (by decide) (fun h => absurd rfl h) (fun _ => ?_)
  refine lv_aload_n hx hb dL_law_1277 rfl (lv_at hl 3 rfl) ?_
  refine lv_iconst (v := 0) hx hb dL_law_1278 (by decide) ?_
  refine k_lald hC hw 0 rfl (k_in0 (by decide)) dL_law_1279 ?_
  refine lv_topl (fun x_2296 ex_2296 => ?_)
  obtain rfl : x_2296 = (0 : Int32).toInt64 := (show x_2296 = fo9_2287 0 from ex_2296).trans g_2288
  refine lv_iload hx hb dL_law_1280 (lv_at hl 0 rfl) ?_
  refine lv_i2l hx hb dL_law_1282 rfl ?_
  refine lv_topl (fun x_2297 ex_2297 => ?_)
  obtain rfl : x_2297 = (0 : Int32).toInt64 := ex_2297
  refine W.lcmp hx hb dL_law_1283 ?_
  refine lv_topi (fun x_2298 ex_2298 => ?_)
  obtain rfl : x_2298 = 0 := ex_2298.trans (k_cmp_self _)
  refine lv_if_eq (tgt := 1289) hx hb dL_law_1284 (by decide) (fun _ => ?_) (fun h => absurd (by decide) h)
  refine lv_goto (tgt := 1370) hx hb dL_law_1289 (by decide) ?_
  exact law_end hC hr hlocks hX hbl hbA hAs hl9 _ _ (kW.sub hw [] rfl rfl) (by decide) (by decide) _ (lv_sub hl [2, 6] rfl)

set_option maxHeartbeats 4000000 in
set_option maxRecDepth 100000 in
theorem lc_29_2 {γ : kΓ} {l : Launch} {p : Program} {e : Env} {s : State} {m : MethodId} {below : List Frame} {meth : Method} {c : Code} {A : Nat → Prop} {b : Nat} {xs : Nat → Int32} (hC : kC γ p s m [Value.ref b].toArray c code 7 RL A) (hr : meth.sig.returnType = ret) (hlocks : meth.locks = false) (hX : va_X b 7 xs s s.heap) (hbl : b < s.heap.size) (hbA : ¬ A b) (hAs : ∀ q, A q → s.heap.size ≤ q) (hl9 : l.stackTraces = false) (x : Nat) (x0 : Nat) (x1 : Nat) (x2 : Nat) (x3 : Nat) (x4 : Nat) (x5 : Nat) (x6 : Nat) (x7 : Nat) (x8 : Nat) (x9 : Nat) (x10 : Nat) (z : Nat) (z2 : Nat) (z10 : Nat) (z11 : Nat) (z12 : Nat) (z13 : Nat) (z14 : Nat) (z15 : Nat) (z16 : Nat) (z17 : Nat) (z18 : Nat) (z19 : Nat) (z22 : Nat) (z23 : Nat) (z24 : Nat) (z25 : Nat) (z26 : Nat) (z27 : Nat) (z28 : Nat) (z29 : Nat) (z30 : Nat) (z31 : Nat) (z32 : Nat) (z33 : Nat) (z36 : Nat) (z37 : Nat) (z38 : Nat) (z39 : Nat) (z40 : Nat) (z41 : Nat) (z42 : Nat) (z43 : Nat) (z44 : Nat) (z45 : Nat) (z46 : Nat) (z47 : Nat) (z48 : Nat) (z55 : Nat) (z56 : Nat) (z59 : Nat) (z60 : Nat) (z61 : Nat) (x90 : Nat) (x91 : Nat) (x92 : Nat) (x93 : Nat) (x94 : Nat) (x95 : Nat) (x96 : Nat) (x97 : Nat) (x4s : Nat) (x4s_l : Nat) (x4s_c : Nat) (x4s_g : Nat) (x4s_r : Nat) (x4s_k : Nat) (x4s_b : Nat) (fx4s_l : Nat → Int32) (fx4s_c : Nat → Int32) (fx4s_g : Nat → Int32) (fx4s_r : Nat → Int64) (fx4s_k : Nat → Int32) (fx4s_b : Nat → Int32) (x2s : Nat) (x2y : Nat) (x2q : Nat) (x2s_l : Nat) (x2s_c : Nat) (x2s_g : Nat) (x2s_r : Nat) (x2s_k : Nat) (x2s_b : Nat) (fx2s_l : Nat → Int32) (fx2s_c : Nat → Int32) (fx2s_g : Nat → Int32) (fx2s_r : Nat → Int64) (fx2s_k : Nat → Int32) (fx2s_b : Nat → Int32) (fa : Nat → Int32) (ou : Nat) (ha0 : fa 0 = 0) (ha1 : fa 1 = 0) (ha2 : fa 2 = 10) (ha3 : fa 3 = 10) (ha4 : fa 4 = 3) (hz : ∀ j, j < 5 → fx2s_g j = 0) (hs0 : ¬ xs 1 < 0) (hs1 : ¬ 9999 < xs 1) (hs2 : ¬ xs 2 < 1) (hs3 : ¬ 99 < xs 2) (hv : xs 3 = 2) (H : Heap) (locs : List Loc) (hw : kW γ A [(x, .inr (10, [.ref x0, .ref x1, .ref x2, .ref x3, .ref x4, .ref x5, .ref x6, .ref x7, .ref x8, .ref x9, .ref x10])), (z, .inr (11, [.int 0, .int 0, .ref z2, .int 0, .int 0, .int 0, .int 0, .long 0, .int 0, .int 0, .ref z10, .ref z11, .ref z12, .ref z13, .ref z14, .ref z15, .ref z16, .ref z17, .ref z18, .ref z19, .int 0, .int 0, .ref z22, .ref z23, .ref z24, .ref z25, .ref z26, .ref z27, .ref z28, .ref z29, .ref z30, .ref z31, .ref z32, .ref z33, .int 0, .long 0, .ref z36, .ref z37, .ref z38, .ref z39, .ref z40, .ref z41, .ref z42, .ref z43, .ref z44, .ref z45, .ref z46, .ref z47, .ref z48, .int 0, .int 10, .int 0, .int 0, .int 0, .int 0, .ref z55, .ref z56, .int 0, .int 0, .ref z59, .ref z60, .ref z61, .int 0, .long 0])), (x9, .inr (0, [.ref x90, .ref x91, .ref x92, .ref x93, .ref x94, .ref x95, .ref x96, .ref x97, .int 0, .int 0, .int 10, .int 10, .int 3, .int 0, .int 0, .int 0, .int 0, .int 0, .int 0])), (x4, .inr (2, [.ref x4s, .int 0, .int 0, .int 0, .long 0])), (x4s, .inr (7, [.ref x4s_l, .ref x4s_c, .ref x4s_g, .ref x4s_r, .ref x4s_k, .ref x4s_b, .int 0, .int 0, .int 0])), (x4s_l, .inl (γ.2.1 0, 5, .inl fx4s_l)), (x4s_c, .inl (γ.2.1 0, 5, .inl fx4s_c)), (x4s_g, .inl (γ.2.1 0, 5, .inl fx4s_g)), (x4s_r, .inl (γ.2.1 1, 5, .inr (.inl fx4s_r))), (x4s_k, .inl (γ.2.1 0, 40, .inl fx4s_k)), (x4s_b, .inl (γ.2.1 0, 8, .inl fx4s_b)), (x2, .inr (3, [.ref x2s, .ref x2y, .ref x2q, .int 0, .int 0, .int 0])), (x2s, .inr (7, [.ref x2s_l, .ref x2s_c, .ref x2s_g, .ref x2s_r, .ref x2s_k, .ref x2s_b, .int 0, .int 0, .int 0])), (x2s_l, .inl (γ.2.1 0, 5, .inl fx2s_l)), (x2s_c, .inl (γ.2.1 0, 5, .inl fx2s_c)), (x2s_g, .inl (γ.2.1 0, 5, .inl fx2s_g)), (x2s_r, .inl (γ.2.1 1, 5, .inr (.inl fx2s_r))), (x2s_k, .inl (γ.2.1 0, 40, .inl fx2s_k)), (x2s_b, .inl (γ.2.1 0, 8, .inl fx2s_b)), (z10, .inl (γ.2.1 0, 10, .inl fa)), (z43, .inl (γ.2.1 0, 133, .inl (fun _ => 0))), (z44, .inl (γ.2.1 0, 133, .inl (fun _ => 0))), (ou, .inl (γ.2.1 1, 1, .inr (.inl (fun _ => 0))))] s H locs) (ls : Array Slot) (hl : lv_has ls 7 [(4, .int 0), (3, .ref ou), (2, .ref z), (1, .ref x), (0, .ref b)]) : W p l e room_1 s m [Value.ref b].toArray below meth c H locs 251 13922 (lw_Z below #[Value.ref b] s) (F0 m 1212 ls []) := by
  have hx := hC.1
  have hb := hC.2.1
  refine lv_aload_n hx hb dL_law_1212 rfl (lv_at hl 3 rfl) ?_
  refine lv_aload_n hx hb dL_law_1213 rfl (lv_at hl 4 rfl) ?_
  refine lv_iload hx hb dL_law_1214 (lv_at hl 0 rfl) ?_
  refine lv_iconst (v := 1) hx hb dL_law_1216 (by decide) ?_
  refine lv_iadd hx hb dL_law_1217 ?_
  refine lv_topi (fun x_2299 ex_2299 => ?_)
  obtain rfl : x_2299 = 1 := ex_2299.trans (by decide)
  refine va_sld hx hb hX hbl hbA hw.2.2 (k_in0 (by decide)) dL_law_1218 ?_
  refine lv_topi (fun x_2300 ex_2300 => ?_)
  obtain rfl : x_2300 = xs 1 := ex_2300
  refine lv_aload_n hx hb dL_law_1219 rfl (lv_at hl 4 rfl) ?_
  refine lv_iload hx hb dL_law_1220 (lv_at hl 0 rfl) ?_
  refine lv_iconst (v := 2) hx hb dL_law_1222 (by decide) ?_
  refine lv_iadd hx hb dL_law_1223 ?_
  refine lv_topi (fun x_2301 ex_2301 => ?_)
  obtain rfl : x_2301 = 2 := ex_2301.trans (by decide)
  refine va_sld hx hb hX hbl hbA hw.2.2 (k_in0 (by decide)) dL_law_1224 ?_
  refine lv_topi (fun x_2302 ex_2302 => ?_)
  obtain rfl : x_2302 = xs 2 := ex_2302
  refine lv_aload_n hx hb dL_law_1225 rfl (lv_at hl 4 rfl) ?_
  refine lv_iload hx hb dL_law_1226 (lv_at hl 0 rfl) ?_
  refine lv_iconst (v := 3) hx hb dL_law_1228 (by decide) ?_
  refine lv_iadd hx hb dL_law_1229 ?_
  refine lv_topi (fun x_2303 ex_2303 => ?_)
  obtain rfl : x_2303 = 3 := ex_2303.trans (by decide)
  refine va_sld hx hb hX hbl hbA hw.2.2 (k_in0 (by decide)) dL_law_1230 ?_
  refine lv_topi (fun x_2304 ex_2304 => ?_)
  obtain rfl : x_2304 = 2 := (show x_2304 = xs 3 from ex_2304).trans hv
  refine lv_aload_n hx hb dL_law_1231 rfl (lv_at hl 1 rfl) ?_
  refine k_SW (wr := [(z, .inr (11, [.int 0, .int 0, .ref z2, .int 0, .int 0, .int 0, .int 0, .long 0, .int 0, .int 0, .ref z10, .ref z11, .ref z12, .ref z13, .ref z14, .ref z15, .ref z16, .ref z17, .ref z18, .ref z19, .int 0, .int 0, .ref z22, .ref z23, .ref z24, .ref z25, .ref z26, .ref z27, .ref z28, .ref z29, .ref z30, .ref z31, .ref z32, .ref z33, .int 0, .long 0, .ref z36, .ref z37, .ref z38, .ref z39, .ref z40, .ref z41, .ref z42, .ref z43, .ref z44, .ref z45, .ref z46, .ref z47, .ref z48, .int 0, .int 10, .int 0, .int 0, .int 0, .int 0, .ref z55, .ref z56, .int 0, .int 0, .ref z59, .ref z60, .ref z61, .int 0, .long 0])), (z10, .inl (γ.2.1 0, 10, .inl fa)), (z43, .inl (γ.2.1 0, 133, .inl (fun _ => 0))), (z44, .inl (γ.2.1 0, 133, .inl (fun _ => 0)))]) 5 gw_1162 gw_1163 gw_0 gw_1164 hd_L_lives hC hw (c_L_lives_2 γ l hl9 x x0 x1 x2 x3 x4 x5 x6 x7 x8 x9 x10 x90 x91 x92 x93 x94 x95 x96 x97 x4s x4s_l x4s_c x4s_g x4s_r x4s_k x4s_b fx4s_l fx4s_c fx4s_g fx4s_r fx4s_k fx4s_b x2s x2y x2q x2s_l x2s_c x2s_g x2s_r x2s_k x2s_b fx2s_l fx2s_c fx2s_g fx2s_r fx2s_k fx2s_b (xs 1) (xs 2) ou (fun _ => 0) hs0 hs1 hs2 hs3 hz) ⟨by decide, by decide⟩ ⟨by decide, by decide⟩ hl.1 rfl rfl (Nat.le_of_ble_eq_true rfl) [0, 2, 3, 4, 5, 6, 7, 8, 9, 10, 11, 12, 13, 14, 15, 16, 17, 18, 22] [1, 19, 20, 21] rfl rfl rfl rfl (by decide) dL_law_1232 (fun r w1 H locs hq hw => ?_)
  obtain ⟨fo9_2305, rfl, rfl, g_2306⟩ := hq
  have hw : kW γ A [(z, .inr (11, [.int 0, .int 0, .ref z2, .int 0, .int 0, .int 0, .int 0, .long 0, .int 0, .int 0, .ref z10, .ref z11, .ref z12, .ref z13, .ref z14, .ref z15, .ref z16, .ref z17, .ref z18, .ref z19, .int 0, .int 0, .ref z22, .ref z23, .ref z24, .ref z25, .ref z26, .ref z27, .ref z28, .ref z29, .ref z30, .ref z31, .ref z32, .ref z33, .int 0, .long 0, .ref z36, .ref z37, .ref z38, .ref z39, .ref z40, .ref z41, .ref z42, .ref z43, .ref z44, .ref z45, .ref z46, .ref z47, .ref z48, .int 0, .int 10, .int 0, .int 0, .int 0, .int 0, .ref z55, .ref z56, .int 0, .int 0, .ref z59, .ref z60, .ref z61, .int 0, .long 0])), (z10, .inl (γ.2.1 0, 10, .inl fa)), (z43, .inl (γ.2.1 0, 133, .inl (fun _ => 0))), (z44, .inl (γ.2.1 0, 133, .inl (fun _ => 0))), (ou, .inl (γ.2.1 1, 1, .inr (.inl fo9_2305)))] s H locs := hw
  refine W.eq (g2 := F0 m 1235 ls [.int 0]) rfl ?_
  refine lv_istore (lv' := [(5, .int 0), (4, .int 0), (3, .ref ou), (2, .ref z), (1, .ref x), (0, .ref b)]) hx hb dL_law_1235 hl (by decide) rfl (fun ls hl => ?_)
  refine lv_aload_n hx hb dL_law_1237 rfl (lv_at hl 3 rfl) ?_
  refine lv_aload_n hx hb dL_law_1238 rfl (lv_at hl 5 rfl) ?_
  refine lv_iload hx hb dL_law_1239 (lv_at hl 1 rfl) ?_
  refine lv_iconst (v := 1) hx hb dL_law_1241 (by decide) ?_
  refine lv_iadd hx hb dL_law_1242 ?_
  refine lv_topi (fun x_2307 ex_2307 => ?_)
  obtain rfl : x_2307 = 1 := ex_2307.trans (by decide)
  refine va_sld hx hb hX hbl hbA hw.2.2 (k_in0 (by decide)) dL_law_1243 ?_
  refine lv_topi (fun x_2308 ex_2308 => ?_)
  obtain rfl : x_2308 = xs 1 := ex_2308
  refine lv_aload_n hx hb dL_law_1244 rfl (lv_at hl 5 rfl) ?_
  refine lv_iload hx hb dL_law_1245 (lv_at hl 1 rfl) ?_
  refine lv_iconst (v := 2) hx hb dL_law_1247 (by decide) ?_
  refine lv_iadd hx hb dL_law_1248 ?_
  refine lv_topi (fun x_2309 ex_2309 => ?_)
  obtain rfl : x_2309 = 2 := ex_2309.trans (by decide)
  refine va_sld hx hb hX hbl hbA hw.2.2 (k_in0 (by decide)) dL_law_1249 ?_
  refine lv_topi (fun x_2310 ex_2310 => ?_)
  obtain rfl : x_2310 = xs 2 := ex_2310
  refine lv_aload_n hx hb dL_law_1250 rfl (lv_at hl 5 rfl) ?_
  refine lv_iload hx hb dL_law_1251 (lv_at hl 1 rfl) ?_
  refine lv_iconst (v := 3) hx hb dL_law_1253 (by decide) ?_
  refine lv_iadd hx hb dL_law_1254 ?_
  refine lv_topi (fun x_2311 ex_2311 => ?_)
  obtain rfl : x_2311 = 3 := ex_2311.trans (by decide)
  refine va_sld hx hb hX hbl hbA hw.2.2 (k_in0 (by decide)) dL_law_1255 ?_
  refine lv_topi (fun x_2312 ex_2312 => ?_)
  obtain rfl : x_2312 = 2 := (show x_2312 = xs 3 from ex_2312).trans hv
  refine k_V (wr := [(ou, .inl (γ.2.1 1, 1, .inr (.inl fo9_2305)))]) 3 gw_1787 gw_1788 gw_1789 gw_15 gw_1790 hd_X12_lives hC hw (c_X12_lives_2 γ l z z2 z10 z11 z12 z13 z14 z15 z16 z17 z18 z19 z22 z23 z24 z25 z26 z27 z28 z29 z30 z31 z32 z33 z36 z37 z38 z39 z40 z41 z42 z43 z44 z45 z46 z47 z48 z55 z56 z59 z60 z61 fa (xs 1) (xs 2) (fun _ => 0) (fun _ => 0) ha0 ha1 ha2 ha3 ha4 hs0 hs1 hs2 hs3) ⟨by decide, by decide⟩ ⟨by decide, by decide⟩ hl.1 rfl 0 rfl rfl rfl (Nat.le_of_ble_eq_true rfl) [0, 1, 2, 3] [4] rfl rfl rfl rfl (by decide) dL_law_1256 (fun r w1 H locs hq hw => ?_)
  obtain ⟨gx_2313, rfl, rfl⟩ := hq
  have hw : kW γ A [(ou, .inl (γ.2.1 1, 1, .inr (.inl fo9_2305))), (z, .inr (11, [.int 0, .int 0, .ref z2, .int 0, .int 0, .int 0, .int 0, .long 0, .int 0, .int 0, .ref z10, .ref z11, .ref z12, .ref z13, .ref z14, .ref z15, .ref z16, .ref z17, .ref z18, .ref z19, .int 0, .int 0, .ref z22, .ref z23, .ref z24, .ref z25, .ref z26, .ref z27, .ref z28, .ref z29, .ref z30, .ref z31, .ref z32, .ref z33, .int 0, .long 0, .ref z36, .ref z37, .ref z38, .ref z39, .ref z40, .ref z41, .ref z42, .ref z43, .ref z44, .ref z45, .ref z46, .ref z47, .ref z48, .int 0, .int 10, .int 0, .int 0, .int 0, .int 0, .ref z55, .ref z56, .int 0, .int 0, .ref z59, .ref z60, .ref z61, .int 0, .long gx_2313]))] s H locs := hw
  refine W.eq (g2 := F0 m 1259 ls [.int 0]) rfl ?_
  refine lv_istore (lv' := [(6, .int 0), (5, .int 0), (4, .int 0), (3, .ref ou), (2, .ref z), (1, .ref x), (0, .ref b)]) hx hb dL_law_1259 hl (by decide) rfl (fun ls hl => ?_)
  refine lv_aload_n hx hb dL_law_1261 rfl (lv_at hl 4 rfl) ?_
  refine k_V (wr := [(ou, .inl (γ.2.1 1, 1, .inr (.inl fo9_2305)))]) 0 gw_1385 gw_1386 gw_1387 gw_15 gw_1388 hd_X12_thrown hC hw (c_X12_thrown γ l z z2 z10 z11 z12 z13 z14 z15 z16 z17 z18 z19 z22 z23 z24 z25 z26 z27 z28 z29 z30 z31 z32 z33 z36 z37 z38 z39 z40 z41 z42 z43 z44 z45 z46 z47 z48 z55 z56 z59 z60 z61 0 0 0 0 0 0 0 0 0 0 0 0 0 10 0 0 0 0 0 0 0 gx_2313 0) ⟨by decide, by decide⟩ ⟨by decide, by decide⟩ hl.1 rfl 1 rfl rfl rfl (Nat.le_of_ble_eq_true rfl) [1] [0] rfl rfl rfl rfl (by decide) dL_law_1262 (fun r w1 H locs hq hw => ?_)
  obtain ⟨rfl, rfl⟩ := hq
  have hw : kW γ A [(ou, .inl (γ.2.1 1, 1, .inr (.inl fo9_2305)))] s H locs := hw
  refine W.eq (g2 := F0 m 1265 ls [.int 0]) rfl ?_
  refine lv_iload hx hb dL_law_1265 (lv_at hl 1 rfl) ?_
  refine lv_icmp_eq (tgt := 1272) hx hb dL_law_1267 (by decide) (fun _ => ?_) (fun h => absurd (by decide) h)
  refine lv_iload hx hb dL_law_1272 (lv_at hl 1 rfl) ?_
  refine lv_if_ne (tgt := 1289) hx hb dL_law_1274 (by decide) (fun h => absurd rfl h) (fun _ => ?_)
  refine lv_aload_n hx hb dL_law_1277 rfl (lv_at hl 3 rfl) ?_
  refine lv_iconst (v := 0) hx hb dL_law_1278 (by decide) ?_
  refine k_lald hC hw 0 rfl (k_in0 (by decide)) dL_law_1279 ?_
  refine lv_topl (fun x_2314 ex_2314 => ?_)
  obtain rfl : x_2314 = (0 : Int32).toInt64 := (show x_2314 = fo9_2305 0 from ex_2314).trans g_2306
  refine lv_iload hx hb dL_law_1280 (lv_at hl 0 rfl) ?_
  refine lv_i2l hx hb dL_law_1282 rfl ?_
  refine lv_topl (fun x_2315 ex_2315 => ?_)
  obtain rfl : x_2315 = (0 : Int32).toInt64 := ex_2315
  refine W.lcmp hx hb dL_law_1283 ?_
  refine lv_topi (fun x_2316 ex_2316 => ?_)
  obtain rfl : x_2316 = 0 := ex_2316.trans (k_cmp_self _)
  refine lv_if_eq (tgt := 1289) hx hb dL_law_1284 (by decide) (fun _ => ?_) (fun h => absurd (by decide) h)
  refine lv_goto (tgt := 1370) hx hb dL_law_1289 (by decide) ?_
  exact law_end hC hr hlocks hX hbl hbA hAs hl9 _ _ (kW.sub hw [] rfl rfl) (by decide) (by decide) _ (lv_sub hl [2, 6] rfl)

set_option maxHeartbeats 4000000 in
set_option maxRecDepth 100000 in
theorem lc_29_a {γ : kΓ} {l : Launch} {p : Program} {e : Env} {s : State} {m : MethodId} {below : List Frame} {meth : Method} {c : Code} {A : Nat → Prop} {b : Nat} {xs : Nat → Int32} (hC : kC γ p s m [Value.ref b].toArray c code 7 RL A) (hr : meth.sig.returnType = ret) (hlocks : meth.locks = false) (hX : va_X b 7 xs s s.heap) (hbl : b < s.heap.size) (hbA : ¬ A b) (hAs : ∀ q, A q → s.heap.size ≤ q) (hl9 : l.stackTraces = false) (x : Nat) (x0 : Nat) (x1 : Nat) (x2 : Nat) (x3 : Nat) (x4 : Nat) (x5 : Nat) (x6 : Nat) (x7 : Nat) (x8 : Nat) (x9 : Nat) (x10 : Nat) (z : Nat) (z2 : Nat) (z10 : Nat) (z11 : Nat) (z12 : Nat) (z13 : Nat) (z14 : Nat) (z15 : Nat) (z16 : Nat) (z17 : Nat) (z18 : Nat) (z19 : Nat) (z22 : Nat) (z23 : Nat) (z24 : Nat) (z25 : Nat) (z26 : Nat) (z27 : Nat) (z28 : Nat) (z29 : Nat) (z30 : Nat) (z31 : Nat) (z32 : Nat) (z33 : Nat) (z36 : Nat) (z37 : Nat) (z38 : Nat) (z39 : Nat) (z40 : Nat) (z41 : Nat) (z42 : Nat) (z43 : Nat) (z44 : Nat) (z45 : Nat) (z46 : Nat) (z47 : Nat) (z48 : Nat) (z55 : Nat) (z56 : Nat) (z59 : Nat) (z60 : Nat) (z61 : Nat) (ou : Nat) (h1 : xs 1 < 0) (H : Heap) (locs : List Loc) (hw : kW γ A [(x, .inr (10, [.ref x0, .ref x1, .ref x2, .ref x3, .ref x4, .ref x5, .ref x6, .ref x7, .ref x8, .ref x9, .ref x10])), (z, .inr (11, [.int 0, .int 0, .ref z2, .int 0, .int 0, .int 0, .int 0, .long 0, .int 0, .int 0, .ref z10, .ref z11, .ref z12, .ref z13, .ref z14, .ref z15, .ref z16, .ref z17, .ref z18, .ref z19, .int 0, .int 0, .ref z22, .ref z23, .ref z24, .ref z25, .ref z26, .ref z27, .ref z28, .ref z29, .ref z30, .ref z31, .ref z32, .ref z33, .int 0, .long 0, .ref z36, .ref z37, .ref z38, .ref z39, .ref z40, .ref z41, .ref z42, .ref z43, .ref z44, .ref z45, .ref z46, .ref z47, .ref z48, .int 0, .int 10, .int 0, .int 0, .int 0, .int 0, .ref z55, .ref z56, .int 0, .int 0, .ref z59, .ref z60, .ref z61, .int 0, .long 0])), (ou, .inl (γ.2.1 1, 1, .inr (.inl (fun _ => 0))))] s H locs) (ls : Array Slot) (hl : lv_has ls 7 [(4, .int 0), (3, .ref ou), (2, .ref z), (1, .ref x), (0, .ref b)]) : W p l e room_1 s m [Value.ref b].toArray below meth c H locs 251 13922 (lw_Z below #[Value.ref b] s) (F0 m 1212 ls []) := by
  have hx := hC.1
  have hb := hC.2.1
  refine lv_aload_n hx hb dL_law_1212 rfl (lv_at hl 3 rfl) ?_
  refine lv_aload_n hx hb dL_law_1213 rfl (lv_at hl 4 rfl) ?_
  refine lv_iload hx hb dL_law_1214 (lv_at hl 0 rfl) ?_
  refine lv_iconst (v := 1) hx hb dL_law_1216 (by decide) ?_
  refine lv_iadd hx hb dL_law_1217 ?_
  refine lv_topi (fun x_2317 ex_2317 => ?_)
  obtain rfl : x_2317 = 1 := ex_2317.trans (by decide)
  refine va_sld hx hb hX hbl hbA hw.2.2 (k_in0 (by decide)) dL_law_1218 ?_
  refine lv_topi (fun x_2318 ex_2318 => ?_)
  obtain rfl : x_2318 = xs 1 := ex_2318
  refine lv_aload_n hx hb dL_law_1219 rfl (lv_at hl 4 rfl) ?_
  refine lv_iload hx hb dL_law_1220 (lv_at hl 0 rfl) ?_
  refine lv_iconst (v := 2) hx hb dL_law_1222 (by decide) ?_
  refine lv_iadd hx hb dL_law_1223 ?_
  refine lv_topi (fun x_2319 ex_2319 => ?_)
  obtain rfl : x_2319 = 2 := ex_2319.trans (by decide)
  refine va_sld hx hb hX hbl hbA hw.2.2 (k_in0 (by decide)) dL_law_1224 ?_
  refine lv_topi (fun x_2320 ex_2320 => ?_)
  obtain rfl : x_2320 = xs 2 := ex_2320
  refine lv_aload_n hx hb dL_law_1225 rfl (lv_at hl 4 rfl) ?_
  refine lv_iload hx hb dL_law_1226 (lv_at hl 0 rfl) ?_
  refine lv_iconst (v := 3) hx hb dL_law_1228 (by decide) ?_
  refine lv_iadd hx hb dL_law_1229 ?_
  refine lv_topi (fun x_2321 ex_2321 => ?_)
  obtain rfl : x_2321 = 3 := ex_2321.trans (by decide)
  refine va_sld hx hb hX hbl hbA hw.2.2 (k_in0 (by decide)) dL_law_1230 ?_
  refine lv_topi (fun x_2322 ex_2322 => ?_)
  obtain rfl : x_2322 = xs 3 := ex_2322
  refine lv_aload_n hx hb dL_law_1231 rfl (lv_at hl 1 rfl) ?_
  refine k_SW (wr := [(z, .inr (11, [.int 0, .int 0, .ref z2, .int 0, .int 0, .int 0, .int 0, .long 0, .int 0, .int 0, .ref z10, .ref z11, .ref z12, .ref z13, .ref z14, .ref z15, .ref z16, .ref z17, .ref z18, .ref z19, .int 0, .int 0, .ref z22, .ref z23, .ref z24, .ref z25, .ref z26, .ref z27, .ref z28, .ref z29, .ref z30, .ref z31, .ref z32, .ref z33, .int 0, .long 0, .ref z36, .ref z37, .ref z38, .ref z39, .ref z40, .ref z41, .ref z42, .ref z43, .ref z44, .ref z45, .ref z46, .ref z47, .ref z48, .int 0, .int 10, .int 0, .int 0, .int 0, .int 0, .ref z55, .ref z56, .int 0, .int 0, .ref z59, .ref z60, .ref z61, .int 0, .long 0]))]) 5 gw_1162 gw_1163 gw_0 gw_1164 hd_L_lives hC hw (c_L_lives_a γ l hl9 x x0 x1 x2 x3 x4 x5 x6 x7 x8 x9 x10 (xs 1) (xs 2) (xs 3) ou (fun _ => 0) h1) ⟨by decide, by decide⟩ ⟨by decide, by decide⟩ hl.1 rfl rfl (Nat.le_of_ble_eq_true rfl) [0, 2] [1] rfl rfl rfl rfl (by decide) dL_law_1232 (fun r w1 H locs hq hw => ?_)
  obtain ⟨rfl, rfl⟩ := hq
  have hw : kW γ A [(z, .inr (11, [.int 0, .int 0, .ref z2, .int 0, .int 0, .int 0, .int 0, .long 0, .int 0, .int 0, .ref z10, .ref z11, .ref z12, .ref z13, .ref z14, .ref z15, .ref z16, .ref z17, .ref z18, .ref z19, .int 0, .int 0, .ref z22, .ref z23, .ref z24, .ref z25, .ref z26, .ref z27, .ref z28, .ref z29, .ref z30, .ref z31, .ref z32, .ref z33, .int 0, .long 0, .ref z36, .ref z37, .ref z38, .ref z39, .ref z40, .ref z41, .ref z42, .ref z43, .ref z44, .ref z45, .ref z46, .ref z47, .ref z48, .int 0, .int 10, .int 0, .int 0, .int 0, .int 0, .ref z55, .ref z56, .int 0, .int 0, .ref z59, .ref z60, .ref z61, .int 0, .long 0])), (ou, .inl (γ.2.1 1, 1, .inr (.inl (fun _ => 0))))] s H locs := hw
  refine W.eq (g2 := F0 m 1235 ls [.int 1]) rfl ?_
  refine W.widen (k := 252) (n := 13928) (by decide) (by decide) ?_
  refine lv_istore (lv' := [(5, .int 1), (4, .int 0), (3, .ref ou), (2, .ref z), (1, .ref x), (0, .ref b)]) hx hb dL_law_1235 hl (by decide) rfl (fun ls hl => ?_)
  refine lv_aload_n hx hb dL_law_1237 rfl (lv_at hl 3 rfl) ?_
  refine lv_aload_n hx hb dL_law_1238 rfl (lv_at hl 5 rfl) ?_
  refine lv_iload hx hb dL_law_1239 (lv_at hl 1 rfl) ?_
  refine lv_iconst (v := 1) hx hb dL_law_1241 (by decide) ?_
  refine lv_iadd hx hb dL_law_1242 ?_
  refine lv_topi (fun x_2323 ex_2323 => ?_)
  obtain rfl : x_2323 = 1 := ex_2323.trans (by decide)
  refine va_sld hx hb hX hbl hbA hw.2.2 (k_in0 (by decide)) dL_law_1243 ?_
  refine lv_topi (fun x_2324 ex_2324 => ?_)
  obtain rfl : x_2324 = xs 1 := ex_2324
  refine lv_aload_n hx hb dL_law_1244 rfl (lv_at hl 5 rfl) ?_
  refine lv_iload hx hb dL_law_1245 (lv_at hl 1 rfl) ?_
  refine lv_iconst (v := 2) hx hb dL_law_1247 (by decide) ?_
  refine lv_iadd hx hb dL_law_1248 ?_
  refine lv_topi (fun x_2325 ex_2325 => ?_)
  obtain rfl : x_2325 = 2 := ex_2325.trans (by decide)
  refine va_sld hx hb hX hbl hbA hw.2.2 (k_in0 (by decide)) dL_law_1249 ?_
  refine lv_topi (fun x_2326 ex_2326 => ?_)
  obtain rfl : x_2326 = xs 2 := ex_2326
  refine lv_aload_n hx hb dL_law_1250 rfl (lv_at hl 5 rfl) ?_
  refine lv_iload hx hb dL_law_1251 (lv_at hl 1 rfl) ?_
  refine lv_iconst (v := 3) hx hb dL_law_1253 (by decide) ?_
  refine lv_iadd hx hb dL_law_1254 ?_
  refine lv_topi (fun x_2327 ex_2327 => ?_)
  obtain rfl : x_2327 = 3 := ex_2327.trans (by decide)
  refine va_sld hx hb hX hbl hbA hw.2.2 (k_in0 (by decide)) dL_law_1255 ?_
  refine lv_topi (fun x_2328 ex_2328 => ?_)
  obtain rfl : x_2328 = xs 3 := ex_2328
  refine k_V (wr := [(ou, .inl (γ.2.1 1, 1, .inr (.inl (fun _ => 0))))]) 3 gw_1787 gw_1788 gw_1789 gw_15 gw_1790 hd_X12_lives hC hw (c_X12_lives_a γ l z z2 z10 z11 z12 z13 z14 z15 z16 z17 z18 z19 z22 z23 z24 z25 z26 z27 z28 z29 z30 z31 z32 z33 z36 z37 z38 z39 z40 z41 z42 z43 z44 z45 z46 z47 z48 z55 z56 z59 z60 z61 (xs 1) (xs 2) (xs 3) h1) ⟨by decide, by decide⟩ ⟨by decide, by decide⟩ hl.1 rfl 0 rfl rfl rfl (Nat.le_of_ble_eq_true rfl) [0] [1] rfl rfl rfl rfl (by decide) dL_law_1256 (fun r w1 H locs hq hw => ?_)
  obtain ⟨rfl, rfl⟩ := hq
  have hw : kW γ A [(ou, .inl (γ.2.1 1, 1, .inr (.inl (fun _ => 0)))), (z, .inr (11, [.int 1, .int 0, .ref z2, .int 0, .int 0, .int 0, .int 0, .long 0, .int 0, .int 0, .ref z10, .ref z11, .ref z12, .ref z13, .ref z14, .ref z15, .ref z16, .ref z17, .ref z18, .ref z19, .int 0, .int 0, .ref z22, .ref z23, .ref z24, .ref z25, .ref z26, .ref z27, .ref z28, .ref z29, .ref z30, .ref z31, .ref z32, .ref z33, .int 0, .long 0, .ref z36, .ref z37, .ref z38, .ref z39, .ref z40, .ref z41, .ref z42, .ref z43, .ref z44, .ref z45, .ref z46, .ref z47, .ref z48, .int 0, .int 10, .int 0, .int 0, .int 0, .int 0, .ref z55, .ref z56, .int 0, .int 0, .ref z59, .ref z60, .ref z61, .int 0, .long 0]))] s H locs := hw
  refine W.eq (g2 := F0 m 1259 ls [.int 0]) rfl ?_
  refine lv_istore (lv' := [(6, .int 0), (5, .int 1), (4, .int 0), (3, .ref ou), (2, .ref z), (1, .ref x), (0, .ref b)]) hx hb dL_law_1259 hl (by decide) rfl (fun ls hl => ?_)
  refine lv_aload_n hx hb dL_law_1261 rfl (lv_at hl 4 rfl) ?_
  refine k_V (wr := [(ou, .inl (γ.2.1 1, 1, .inr (.inl (fun _ => 0))))]) 0 gw_1385 gw_1386 gw_1387 gw_15 gw_1388 hd_X12_thrown hC hw (c_X12_thrown γ l z z2 z10 z11 z12 z13 z14 z15 z16 z17 z18 z19 z22 z23 z24 z25 z26 z27 z28 z29 z30 z31 z32 z33 z36 z37 z38 z39 z40 z41 z42 z43 z44 z45 z46 z47 z48 z55 z56 z59 z60 z61 0 0 0 0 0 0 0 0 0 0 0 0 0 10 0 0 0 0 0 0 0 0 1) ⟨by decide, by decide⟩ ⟨by decide, by decide⟩ hl.1 rfl 1 rfl rfl rfl (Nat.le_of_ble_eq_true rfl) [1] [0] rfl rfl rfl rfl (by decide) dL_law_1262 (fun r w1 H locs hq hw => ?_)
  obtain ⟨rfl, rfl⟩ := hq
  have hw : kW γ A [(ou, .inl (γ.2.1 1, 1, .inr (.inl (fun _ => 0))))] s H locs := hw
  refine W.eq (g2 := F0 m 1265 ls [.int 1]) rfl ?_
  refine lv_iload hx hb dL_law_1265 (lv_at hl 1 rfl) ?_
  refine lv_icmp_eq (tgt := 1272) hx hb dL_law_1267 (by decide) (fun _ => ?_) (fun h => absurd (by decide) h)
  refine lv_iload hx hb dL_law_1272 (lv_at hl 1 rfl) ?_
  refine lv_if_ne (tgt := 1289) hx hb dL_law_1274 (by decide) (fun _ => ?_) (fun h => absurd h (by decide))
  refine lv_goto (tgt := 1370) hx hb dL_law_1289 (by decide) ?_
  exact law_end hC hr hlocks hX hbl hbA hAs hl9 _ _ (kW.sub hw [] rfl rfl) (by decide) (by decide) _ (lv_sub hl [2, 6] rfl)

set_option maxHeartbeats 4000000 in
set_option maxRecDepth 100000 in
theorem lc_29_b {γ : kΓ} {l : Launch} {p : Program} {e : Env} {s : State} {m : MethodId} {below : List Frame} {meth : Method} {c : Code} {A : Nat → Prop} {b : Nat} {xs : Nat → Int32} (hC : kC γ p s m [Value.ref b].toArray c code 7 RL A) (hr : meth.sig.returnType = ret) (hlocks : meth.locks = false) (hX : va_X b 7 xs s s.heap) (hbl : b < s.heap.size) (hbA : ¬ A b) (hAs : ∀ q, A q → s.heap.size ≤ q) (hl9 : l.stackTraces = false) (x : Nat) (x0 : Nat) (x1 : Nat) (x2 : Nat) (x3 : Nat) (x4 : Nat) (x5 : Nat) (x6 : Nat) (x7 : Nat) (x8 : Nat) (x9 : Nat) (x10 : Nat) (z : Nat) (z2 : Nat) (z10 : Nat) (z11 : Nat) (z12 : Nat) (z13 : Nat) (z14 : Nat) (z15 : Nat) (z16 : Nat) (z17 : Nat) (z18 : Nat) (z19 : Nat) (z22 : Nat) (z23 : Nat) (z24 : Nat) (z25 : Nat) (z26 : Nat) (z27 : Nat) (z28 : Nat) (z29 : Nat) (z30 : Nat) (z31 : Nat) (z32 : Nat) (z33 : Nat) (z36 : Nat) (z37 : Nat) (z38 : Nat) (z39 : Nat) (z40 : Nat) (z41 : Nat) (z42 : Nat) (z43 : Nat) (z44 : Nat) (z45 : Nat) (z46 : Nat) (z47 : Nat) (z48 : Nat) (z55 : Nat) (z56 : Nat) (z59 : Nat) (z60 : Nat) (z61 : Nat) (ou : Nat) (h1 : ¬ xs 1 < 0) (h2 : 9999 < xs 1) (H : Heap) (locs : List Loc) (hw : kW γ A [(x, .inr (10, [.ref x0, .ref x1, .ref x2, .ref x3, .ref x4, .ref x5, .ref x6, .ref x7, .ref x8, .ref x9, .ref x10])), (z, .inr (11, [.int 0, .int 0, .ref z2, .int 0, .int 0, .int 0, .int 0, .long 0, .int 0, .int 0, .ref z10, .ref z11, .ref z12, .ref z13, .ref z14, .ref z15, .ref z16, .ref z17, .ref z18, .ref z19, .int 0, .int 0, .ref z22, .ref z23, .ref z24, .ref z25, .ref z26, .ref z27, .ref z28, .ref z29, .ref z30, .ref z31, .ref z32, .ref z33, .int 0, .long 0, .ref z36, .ref z37, .ref z38, .ref z39, .ref z40, .ref z41, .ref z42, .ref z43, .ref z44, .ref z45, .ref z46, .ref z47, .ref z48, .int 0, .int 10, .int 0, .int 0, .int 0, .int 0, .ref z55, .ref z56, .int 0, .int 0, .ref z59, .ref z60, .ref z61, .int 0, .long 0])), (ou, .inl (γ.2.1 1, 1, .inr (.inl (fun _ => 0))))] s H locs) (ls : Array Slot) (hl : lv_has ls 7 [(4, .int 0), (3, .ref ou), (2, .ref z), (1, .ref x), (0, .ref b)]) : W p l e room_1 s m [Value.ref b].toArray below meth c H locs 251 13922 (lw_Z below #[Value.ref b] s) (F0 m 1212 ls []) := by
  have hx := hC.1
  have hb := hC.2.1
  refine lv_aload_n hx hb dL_law_1212 rfl (lv_at hl 3 rfl) ?_
  refine lv_aload_n hx hb dL_law_1213 rfl (lv_at hl 4 rfl) ?_
  refine lv_iload hx hb dL_law_1214 (lv_at hl 0 rfl) ?_
  refine lv_iconst (v := 1) hx hb dL_law_1216 (by decide) ?_
  refine lv_iadd hx hb dL_law_1217 ?_
  refine lv_topi (fun x_2329 ex_2329 => ?_)
  obtain rfl : x_2329 = 1 := ex_2329.trans (by decide)
  refine va_sld hx hb hX hbl hbA hw.2.2 (k_in0 (by decide)) dL_law_1218 ?_
  refine lv_topi (fun x_2330 ex_2330 => ?_)
  obtain rfl : x_2330 = xs 1 := ex_2330
  refine lv_aload_n hx hb dL_law_1219 rfl (lv_at hl 4 rfl) ?_
  refine lv_iload hx hb dL_law_1220 (lv_at hl 0 rfl) ?_
  refine lv_iconst (v := 2) hx hb dL_law_1222 (by decide) ?_
  refine lv_iadd hx hb dL_law_1223 ?_
  refine lv_topi (fun x_2331 ex_2331 => ?_)
  obtain rfl : x_2331 = 2 := ex_2331.trans (by decide)
  refine va_sld hx hb hX hbl hbA hw.2.2 (k_in0 (by decide)) dL_law_1224 ?_
  refine lv_topi (fun x_2332 ex_2332 => ?_)
  obtain rfl : x_2332 = xs 2 := ex_2332
  refine lv_aload_n hx hb dL_law_1225 rfl (lv_at hl 4 rfl) ?_
  refine lv_iload hx hb dL_law_1226 (lv_at hl 0 rfl) ?_
  refine lv_iconst (v := 3) hx hb dL_law_1228 (by decide) ?_
  refine lv_iadd hx hb dL_law_1229 ?_
  refine lv_topi (fun x_2333 ex_2333 => ?_)
  obtain rfl : x_2333 = 3 := ex_2333.trans (by decide)
  refine va_sld hx hb hX hbl hbA hw.2.2 (k_in0 (by decide)) dL_law_1230 ?_
  refine lv_topi (fun x_2334 ex_2334 => ?_)
  obtain rfl : x_2334 = xs 3 := ex_2334
  refine lv_aload_n hx hb dL_law_1231 rfl (lv_at hl 1 rfl) ?_
  refine k_SW (wr := [(z, .inr (11, [.int 0, .int 0, .ref z2, .int 0, .int 0, .int 0, .int 0, .long 0, .int 0, .int 0, .ref z10, .ref z11, .ref z12, .ref z13, .ref z14, .ref z15, .ref z16, .ref z17, .ref z18, .ref z19, .int 0, .int 0, .ref z22, .ref z23, .ref z24, .ref z25, .ref z26, .ref z27, .ref z28, .ref z29, .ref z30, .ref z31, .ref z32, .ref z33, .int 0, .long 0, .ref z36, .ref z37, .ref z38, .ref z39, .ref z40, .ref z41, .ref z42, .ref z43, .ref z44, .ref z45, .ref z46, .ref z47, .ref z48, .int 0, .int 10, .int 0, .int 0, .int 0, .int 0, .ref z55, .ref z56, .int 0, .int 0, .ref z59, .ref z60, .ref z61, .int 0, .long 0]))]) 5 gw_1162 gw_1163 gw_0 gw_1164 hd_L_lives hC hw (c_L_lives_b γ l hl9 x x0 x1 x2 x3 x4 x5 x6 x7 x8 x9 x10 (xs 1) (xs 2) (xs 3) ou (fun _ => 0) h1 h2) ⟨by decide, by decide⟩ ⟨by decide, by decide⟩ hl.1 rfl rfl (Nat.le_of_ble_eq_true rfl) [0, 2] [1] rfl rfl rfl rfl (by decide) dL_law_1232 (fun r w1 H locs hq hw => ?_)
  obtain ⟨rfl, rfl⟩ := hq
  have hw : kW γ A [(z, .inr (11, [.int 0, .int 0, .ref z2, .int 0, .int 0, .int 0, .int 0, .long 0, .int 0, .int 0, .ref z10, .ref z11, .ref z12, .ref z13, .ref z14, .ref z15, .ref z16, .ref z17, .ref z18, .ref z19, .int 0, .int 0, .ref z22, .ref z23, .ref z24, .ref z25, .ref z26, .ref z27, .ref z28, .ref z29, .ref z30, .ref z31, .ref z32, .ref z33, .int 0, .long 0, .ref z36, .ref z37, .ref z38, .ref z39, .ref z40, .ref z41, .ref z42, .ref z43, .ref z44, .ref z45, .ref z46, .ref z47, .ref z48, .int 0, .int 10, .int 0, .int 0, .int 0, .int 0, .ref z55, .ref z56, .int 0, .int 0, .ref z59, .ref z60, .ref z61, .int 0, .long 0])), (ou, .inl (γ.2.1 1, 1, .inr (.inl (fun _ => 0))))] s H locs := hw
  refine W.eq (g2 := F0 m 1235 ls [.int 1]) rfl ?_
  refine W.widen (k := 252) (n := 13928) (by decide) (by decide) ?_
  refine lv_istore (lv' := [(5, .int 1), (4, .int 0), (3, .ref ou), (2, .ref z), (1, .ref x), (0, .ref b)]) hx hb dL_law_1235 hl (by decide) rfl (fun ls hl => ?_)
  refine lv_aload_n hx hb dL_law_1237 rfl (lv_at hl 3 rfl) ?_
  refine lv_aload_n hx hb dL_law_1238 rfl (lv_at hl 5 rfl) ?_
  refine lv_iload hx hb dL_law_1239 (lv_at hl 1 rfl) ?_
  refine lv_iconst (v := 1) hx hb dL_law_1241 (by decide) ?_
  refine lv_iadd hx hb dL_law_1242 ?_
  refine lv_topi (fun x_2335 ex_2335 => ?_)
  obtain rfl : x_2335 = 1 := ex_2335.trans (by decide)
  refine va_sld hx hb hX hbl hbA hw.2.2 (k_in0 (by decide)) dL_law_1243 ?_
  refine lv_topi (fun x_2336 ex_2336 => ?_)
  obtain rfl : x_2336 = xs 1 := ex_2336
  refine lv_aload_n hx hb dL_law_1244 rfl (lv_at hl 5 rfl) ?_
  refine lv_iload hx hb dL_law_1245 (lv_at hl 1 rfl) ?_
  refine lv_iconst (v := 2) hx hb dL_law_1247 (by decide) ?_
  refine lv_iadd hx hb dL_law_1248 ?_
  refine lv_topi (fun x_2337 ex_2337 => ?_)
  obtain rfl : x_2337 = 2 := ex_2337.trans (by decide)
  refine va_sld hx hb hX hbl hbA hw.2.2 (k_in0 (by decide)) dL_law_1249 ?_
  refine lv_topi (fun x_2338 ex_2338 => ?_)
  obtain rfl : x_2338 = xs 2 := ex_2338
  refine lv_aload_n hx hb dL_law_1250 rfl (lv_at hl 5 rfl) ?_
  refine lv_iload hx hb dL_law_1251 (lv_at hl 1 rfl) ?_
  refine lv_iconst (v := 3) hx hb dL_law_1253 (by decide) ?_
  refine lv_iadd hx hb dL_law_1254 ?_
  refine lv_topi (fun x_2339 ex_2339 => ?_)
  obtain rfl : x_2339 = 3 := ex_2339.trans (by decide)
  refine va_sld hx hb hX hbl hbA hw.2.2 (k_in0 (by decide)) dL_law_1255 ?_
  refine lv_topi (fun x_2340 ex_2340 => ?_)
  obtain rfl : x_2340 = xs 3 := ex_2340
  refine k_V (wr := [(ou, .inl (γ.2.1 1, 1, .inr (.inl (fun _ => 0))))]) 3 gw_1787 gw_1788 gw_1789 gw_15 gw_1790 hd_X12_lives hC hw (c_X12_lives_b γ l z z2 z10 z11 z12 z13 z14 z15 z16 z17 z18 z19 z22 z23 z24 z25 z26 z27 z28 z29 z30 z31 z32 z33 z36 z37 z38 z39 z40 z41 z42 z43 z44 z45 z46 z47 z48 z55 z56 z59 z60 z61 (xs 1) (xs 2) (xs 3) h1 h2) ⟨by decide, by decide⟩ ⟨by decide, by decide⟩ hl.1 rfl 0 rfl rfl rfl (Nat.le_of_ble_eq_true rfl) [0] [1] rfl rfl rfl rfl (by decide) dL_law_1256 (fun r w1 H locs hq hw => ?_)
  obtain ⟨rfl, rfl⟩ := hq
  have hw : kW γ A [(ou, .inl (γ.2.1 1, 1, .inr (.inl (fun _ => 0)))), (z, .inr (11, [.int 1, .int 0, .ref z2, .int 0, .int 0, .int 0, .int 0, .long 0, .int 0, .int 0, .ref z10, .ref z11, .ref z12, .ref z13, .ref z14, .ref z15, .ref z16, .ref z17, .ref z18, .ref z19, .int 0, .int 0, .ref z22, .ref z23, .ref z24, .ref z25, .ref z26, .ref z27, .ref z28, .ref z29, .ref z30, .ref z31, .ref z32, .ref z33, .int 0, .long 0, .ref z36, .ref z37, .ref z38, .ref z39, .ref z40, .ref z41, .ref z42, .ref z43, .ref z44, .ref z45, .ref z46, .ref z47, .ref z48, .int 0, .int 10, .int 0, .int 0, .int 0, .int 0, .ref z55, .ref z56, .int 0, .int 0, .ref z59, .ref z60, .ref z61, .int 0, .long 0]))] s H locs := hw
  refine W.eq (g2 := F0 m 1259 ls [.int 0]) rfl ?_
  refine lv_istore (lv' := [(6, .int 0), (5, .int 1), (4, .int 0), (3, .ref ou), (2, .ref z), (1, .ref x), (0, .ref b)]) hx hb dL_law_1259 hl (by decide) rfl (fun ls hl => ?_)
  refine lv_aload_n hx hb dL_law_1261 rfl (lv_at hl 4 rfl) ?_
  refine k_V (wr := [(ou, .inl (γ.2.1 1, 1, .inr (.inl (fun _ => 0))))]) 0 gw_1385 gw_1386 gw_1387 gw_15 gw_1388 hd_X12_thrown hC hw (c_X12_thrown γ l z z2 z10 z11 z12 z13 z14 z15 z16 z17 z18 z19 z22 z23 z24 z25 z26 z27 z28 z29 z30 z31 z32 z33 z36 z37 z38 z39 z40 z41 z42 z43 z44 z45 z46 z47 z48 z55 z56 z59 z60 z61 0 0 0 0 0 0 0 0 0 0 0 0 0 10 0 0 0 0 0 0 0 0 1) ⟨by decide, by decide⟩ ⟨by decide, by decide⟩ hl.1 rfl 1 rfl rfl rfl (Nat.le_of_ble_eq_true rfl) [1] [0] rfl rfl rfl rfl (by decide) dL_law_1262 (fun r w1 H locs hq hw => ?_)
  obtain ⟨rfl, rfl⟩ := hq
  have hw : kW γ A [(ou, .inl (γ.2.1 1, 1, .inr (.inl (fun _ => 0))))] s H locs := hw
  refine W.eq (g2 := F0 m 1265 ls [.int 1]) rfl ?_
  refine lv_iload hx hb dL_law_1265 (lv_at hl 1 rfl) ?_
  refine lv_icmp_eq (tgt := 1272) hx hb dL_law_1267 (by decide) (fun _ => ?_) (fun h => absurd (by decide) h)
  refine lv_iload hx hb dL_law_1272 (lv_at hl 1 rfl) ?_
  refine lv_if_ne (tgt := 1289) hx hb dL_law_1274 (by decide) (fun _ => ?_) (fun h => absurd h (by decide))
  refine lv_goto (tgt := 1370) hx hb dL_law_1289 (by decide) ?_
  exact law_end hC hr hlocks hX hbl hbA hAs hl9 _ _ (kW.sub hw [] rfl rfl) (by decide) (by decide) _ (lv_sub hl [2, 6] rfl)

set_option maxHeartbeats 4000000 in
set_option maxRecDepth 100000 in
theorem lc_29_c {γ : kΓ} {l : Launch} {p : Program} {e : Env} {s : State} {m : MethodId} {below : List Frame} {meth : Method} {c : Code} {A : Nat → Prop} {b : Nat} {xs : Nat → Int32} (hC : kC γ p s m [Value.ref b].toArray c code 7 RL A) (hr : meth.sig.returnType = ret) (hlocks : meth.locks = false) (hX : va_X b 7 xs s s.heap) (hbl : b < s.heap.size) (hbA : ¬ A b) (hAs : ∀ q, A q → s.heap.size ≤ q) (hl9 : l.stackTraces = false) (x : Nat) (x0 : Nat) (x1 : Nat) (x2 : Nat) (x3 : Nat) (x4 : Nat) (x5 : Nat) (x6 : Nat) (x7 : Nat) (x8 : Nat) (x9 : Nat) (x10 : Nat) (z : Nat) (z2 : Nat) (z10 : Nat) (z11 : Nat) (z12 : Nat) (z13 : Nat) (z14 : Nat) (z15 : Nat) (z16 : Nat) (z17 : Nat) (z18 : Nat) (z19 : Nat) (z22 : Nat) (z23 : Nat) (z24 : Nat) (z25 : Nat) (z26 : Nat) (z27 : Nat) (z28 : Nat) (z29 : Nat) (z30 : Nat) (z31 : Nat) (z32 : Nat) (z33 : Nat) (z36 : Nat) (z37 : Nat) (z38 : Nat) (z39 : Nat) (z40 : Nat) (z41 : Nat) (z42 : Nat) (z43 : Nat) (z44 : Nat) (z45 : Nat) (z46 : Nat) (z47 : Nat) (z48 : Nat) (z55 : Nat) (z56 : Nat) (z59 : Nat) (z60 : Nat) (z61 : Nat) (ou : Nat) (hs0 : ¬ xs 1 < 0) (hs1 : ¬ 9999 < xs 1) (h1 : xs 2 < 1) (H : Heap) (locs : List Loc) (hw : kW γ A [(x, .inr (10, [.ref x0, .ref x1, .ref x2, .ref x3, .ref x4, .ref x5, .ref x6, .ref x7, .ref x8, .ref x9, .ref x10])), (z, .inr (11, [.int 0, .int 0, .ref z2, .int 0, .int 0, .int 0, .int 0, .long 0, .int 0, .int 0, .ref z10, .ref z11, .ref z12, .ref z13, .ref z14, .ref z15, .ref z16, .ref z17, .ref z18, .ref z19, .int 0, .int 0, .ref z22, .ref z23, .ref z24, .ref z25, .ref z26, .ref z27, .ref z28, .ref z29, .ref z30, .ref z31, .ref z32, .ref z33, .int 0, .long 0, .ref z36, .ref z37, .ref z38, .ref z39, .ref z40, .ref z41, .ref z42, .ref z43, .ref z44, .ref z45, .ref z46, .ref z47, .ref z48, .int 0, .int 10, .int 0, .int 0, .int 0, .int 0, .ref z55, .ref z56, .int 0, .int 0, .ref z59, .ref z60, .ref z61, .int 0, .long 0])), (ou, .inl (γ.2.1 1, 1, .inr (.inl (fun _ => 0))))] s H locs) (ls : Array Slot) (hl : lv_has ls 7 [(4, .int 0), (3, .ref ou), (2, .ref z), (1, .ref x), (0, .ref b)]) : W p l e room_1 s m [Value.ref b].toArray below meth c H locs 251 13922 (lw_Z below #[Value.ref b] s) (F0 m 1212 ls []) := by
  have hx := hC.1
  have hb := hC.2.1
  refine lv_aload_n hx hb dL_law_1212 rfl (lv_at hl 3 rfl) ?_
  refine lv_aload_n hx hb dL_law_1213 rfl (lv_at hl 4 rfl) ?_
  refine lv_iload hx hb dL_law_1214 (lv_at hl 0 rfl) ?_
  refine lv_iconst (v := 1) hx hb dL_law_1216 (by decide) ?_
  refine lv_iadd hx hb dL_law_1217 ?_
  refine lv_topi (fun x_2341 ex_2341 => ?_)
  obtain rfl : x_2341 = 1 := ex_2341.trans (by decide)
  refine va_sld hx hb hX hbl hbA hw.2.2 (k_in0 (by decide)) dL_law_1218 ?_
  refine lv_topi (fun x_2342 ex_2342 => ?_)
  obtain rfl : x_2342 = xs 1 := ex_2342
  refine lv_aload_n hx hb dL_law_1219 rfl (lv_at hl 4 rfl) ?_
  refine lv_iload hx hb dL_law_1220 (lv_at hl 0 rfl) ?_
  refine lv_iconst (v := 2) hx hb dL_law_1222 (by decide) ?_
  refine lv_iadd hx hb dL_law_1223 ?_
  refine lv_topi (fun x_2343 ex_2343 => ?_)
  obtain rfl : x_2343 = 2 := ex_2343.trans (by decide)
  refine va_sld hx hb hX hbl hbA hw.2.2 (k_in0 (by decide)) dL_law_1224 ?_
  refine lv_topi (fun x_2344 ex_2344 => ?_)
  obtain rfl : x_2344 = xs 2 := ex_2344
  refine lv_aload_n hx hb dL_law_1225 rfl (lv_at hl 4 rfl) ?_
  refine lv_iload hx hb dL_law_1226 (lv_at hl 0 rfl) ?_
  refine lv_iconst (v := 3) hx hb dL_law_1228 (by decide) ?_
  refine lv_iadd hx hb dL_law_1229 ?_
  refine lv_topi (fun x_2345 ex_2345 => ?_)
  obtain rfl : x_2345 = 3 := ex_2345.trans (by decide)
  refine va_sld hx hb hX hbl hbA hw.2.2 (k_in0 (by decide)) dL_law_1230 ?_
  refine lv_topi (fun x_2346 ex_2346 => ?_)
  obtain rfl : x_2346 = xs 3 := ex_2346
  refine lv_aload_n hx hb dL_law_1231 rfl (lv_at hl 1 rfl) ?_
  refine k_SW (wr := [(z, .inr (11, [.int 0, .int 0, .ref z2, .int 0, .int 0, .int 0, .int 0, .long 0, .int 0, .int 0, .ref z10, .ref z11, .ref z12, .ref z13, .ref z14, .ref z15, .ref z16, .ref z17, .ref z18, .ref z19, .int 0, .int 0, .ref z22, .ref z23, .ref z24, .ref z25, .ref z26, .ref z27, .ref z28, .ref z29, .ref z30, .ref z31, .ref z32, .ref z33, .int 0, .long 0, .ref z36, .ref z37, .ref z38, .ref z39, .ref z40, .ref z41, .ref z42, .ref z43, .ref z44, .ref z45, .ref z46, .ref z47, .ref z48, .int 0, .int 10, .int 0, .int 0, .int 0, .int 0, .ref z55, .ref z56, .int 0, .int 0, .ref z59, .ref z60, .ref z61, .int 0, .long 0]))]) 5 gw_1162 gw_1163 gw_0 gw_1164 hd_L_lives hC hw (c_L_lives_c γ l hl9 x x0 x1 x2 x3 x4 x5 x6 x7 x8 x9 x10 (xs 1) (xs 2) (xs 3) ou (fun _ => 0) hs0 hs1 h1) ⟨by decide, by decide⟩ ⟨by decide, by decide⟩ hl.1 rfl rfl (Nat.le_of_ble_eq_true rfl) [0, 2] [1] rfl rfl rfl rfl (by decide) dL_law_1232 (fun r w1 H locs hq hw => ?_)
  obtain ⟨rfl, rfl⟩ := hq
  have hw : kW γ A [(z, .inr (11, [.int 0, .int 0, .ref z2, .int 0, .int 0, .int 0, .int 0, .long 0, .int 0, .int 0, .ref z10, .ref z11, .ref z12, .ref z13, .ref z14, .ref z15, .ref z16, .ref z17, .ref z18, .ref z19, .int 0, .int 0, .ref z22, .ref z23, .ref z24, .ref z25, .ref z26, .ref z27, .ref z28, .ref z29, .ref z30, .ref z31, .ref z32, .ref z33, .int 0, .long 0, .ref z36, .ref z37, .ref z38, .ref z39, .ref z40, .ref z41, .ref z42, .ref z43, .ref z44, .ref z45, .ref z46, .ref z47, .ref z48, .int 0, .int 10, .int 0, .int 0, .int 0, .int 0, .ref z55, .ref z56, .int 0, .int 0, .ref z59, .ref z60, .ref z61, .int 0, .long 0])), (ou, .inl (γ.2.1 1, 1, .inr (.inl (fun _ => 0))))] s H locs := hw
  refine W.eq (g2 := F0 m 1235 ls [.int 1]) rfl ?_
  refine W.widen (k := 252) (n := 13928) (by decide) (by decide) ?_
  refine lv_istore (lv' := [(5, .int 1), (4, .int 0), (3, .ref ou), (2, .ref z), (1, .ref x), (0, .ref b)]) hx hb dL_law_1235 hl (by decide) rfl (fun ls hl => ?_)
  refine lv_aload_n hx hb dL_law_1237 rfl (lv_at hl 3 rfl) ?_
  refine lv_aload_n hx hb dL_law_1238 rfl (lv_at hl 5 rfl) ?_
  refine lv_iload hx hb dL_law_1239 (lv_at hl 1 rfl) ?_
  refine lv_iconst (v := 1) hx hb dL_law_1241 (by decide) ?_
  refine lv_iadd hx hb dL_law_1242 ?_
  refine lv_topi (fun x_2347 ex_2347 => ?_)
  obtain rfl : x_2347 = 1 := ex_2347.trans (by decide)
  refine va_sld hx hb hX hbl hbA hw.2.2 (k_in0 (by decide)) dL_law_1243 ?_
  refine lv_topi (fun x_2348 ex_2348 => ?_)
  obtain rfl : x_2348 = xs 1 := ex_2348
  refine lv_aload_n hx hb dL_law_1244 rfl (lv_at hl 5 rfl) ?_
  refine lv_iload hx hb dL_law_1245 (lv_at hl 1 rfl) ?_
  refine lv_iconst (v := 2) hx hb dL_law_1247 (by decide) ?_
  refine lv_iadd hx hb dL_law_1248 ?_
  refine lv_topi (fun x_2349 ex_2349 => ?_)
  obtain rfl : x_2349 = 2 := ex_2349.trans (by decide)
  refine va_sld hx hb hX hbl hbA hw.2.2 (k_in0 (by decide)) dL_law_1249 ?_
  refine lv_topi (fun x_2350 ex_2350 => ?_)
  obtain rfl : x_2350 = xs 2 := ex_2350
  refine lv_aload_n hx hb dL_law_1250 rfl (lv_at hl 5 rfl) ?_
  refine lv_iload hx hb dL_law_1251 (lv_at hl 1 rfl) ?_
  refine lv_iconst (v := 3) hx hb dL_law_1253 (by decide) ?_
  refine lv_iadd hx hb dL_law_1254 ?_
  refine lv_topi (fun x_2351 ex_2351 => ?_)
  obtain rfl : x_2351 = 3 := ex_2351.trans (by decide)
  refine va_sld hx hb hX hbl hbA hw.2.2 (k_in0 (by decide)) dL_law_1255 ?_
  refine lv_topi (fun x_2352 ex_2352 => ?_)
  obtain rfl : x_2352 = xs 3 := ex_2352
  refine k_V (wr := [(ou, .inl (γ.2.1 1, 1, .inr (.inl (fun _ => 0))))]) 3 gw_1787 gw_1788 gw_1789 gw_15 gw_1790 hd_X12_lives hC hw (c_X12_lives_c γ l z z2 z10 z11 z12 z13 z14 z15 z16 z17 z18 z19 z22 z23 z24 z25 z26 z27 z28 z29 z30 z31 z32 z33 z36 z37 z38 z39 z40 z41 z42 z43 z44 z45 z46 z47 z48 z55 z56 z59 z60 z61 (xs 1) (xs 2) (xs 3) hs0 hs1 h1) ⟨by decide, by decide⟩ ⟨by decide, by decide⟩ hl.1 rfl 0 rfl rfl rfl (Nat.le_of_ble_eq_true rfl) [0] [1] rfl rfl rfl rfl (by decide) dL_law_1256 (fun r w1 H locs hq hw => ?_)
  obtain ⟨rfl, rfl⟩ := hq
  have hw : kW γ A [(ou, .inl (γ.2.1 1, 1, .inr (.inl (fun _ => 0)))), (z, .inr (11, [.int 1, .int 0, .ref z2, .int 0, .int 0, .int 0, .int 0, .long 0, .int 0, .int 0, .ref z10, .ref z11, .ref z12, .ref z13, .ref z14, .ref z15, .ref z16, .ref z17, .ref z18, .ref z19, .int 0, .int 0, .ref z22, .ref z23, .ref z24, .ref z25, .ref z26, .ref z27, .ref z28, .ref z29, .ref z30, .ref z31, .ref z32, .ref z33, .int 0, .long 0, .ref z36, .ref z37, .ref z38, .ref z39, .ref z40, .ref z41, .ref z42, .ref z43, .ref z44, .ref z45, .ref z46, .ref z47, .ref z48, .int 0, .int 10, .int 0, .int 0, .int 0, .int 0, .ref z55, .ref z56, .int 0, .int 0, .ref z59, .ref z60, .ref z61, .int 0, .long 0]))] s H locs := hw
  refine W.eq (g2 := F0 m 1259 ls [.int 0]) rfl ?_
  refine lv_istore (lv' := [(6, .int 0), (5, .int 1), (4, .int 0), (3, .ref ou), (2, .ref z), (1, .ref x), (0, .ref b)]) hx hb dL_law_1259 hl (by decide) rfl (fun ls hl => ?_)
  refine lv_aload_n hx hb dL_law_1261 rfl (lv_at hl 4 rfl) ?_
  refine k_V (wr := [(ou, .inl (γ.2.1 1, 1, .inr (.inl (fun _ => 0))))]) 0 gw_1385 gw_1386 gw_1387 gw_15 gw_1388 hd_X12_thrown hC hw (c_X12_thrown γ l z z2 z10 z11 z12 z13 z14 z15 z16 z17 z18 z19 z22 z23 z24 z25 z26 z27 z28 z29 z30 z31 z32 z33 z36 z37 z38 z39 z40 z41 z42 z43 z44 z45 z46 z47 z48 z55 z56 z59 z60 z61 0 0 0 0 0 0 0 0 0 0 0 0 0 10 0 0 0 0 0 0 0 0 1) ⟨by decide, by decide⟩ ⟨by decide, by decide⟩ hl.1 rfl 1 rfl rfl rfl (Nat.le_of_ble_eq_true rfl) [1] [0] rfl rfl rfl rfl (by decide) dL_law_1262 (fun r w1 H locs hq hw => ?_)
  obtain ⟨rfl, rfl⟩ := hq
  have hw : kW γ A [(ou, .inl (γ.2.1 1, 1, .inr (.inl (fun _ => 0))))] s H locs := hw
  refine W.eq (g2 := F0 m 1265 ls [.int 1]) rfl ?_
  refine lv_iload hx hb dL_law_1265 (lv_at hl 1 rfl) ?_
  refine lv_icmp_eq (tgt := 1272) hx hb dL_law_1267 (by decide) (fun _ => ?_) (fun h => absurd (by decide) h)
  refine lv_iload hx hb dL_law_1272 (lv_at hl 1 rfl) ?_
  refine lv_if_ne (tgt := 1289) hx hb dL_law_1274 (by decide) (fun _ => ?_) (fun h => absurd h (by decide))
  refine lv_goto (tgt := 1370) hx hb dL_law_1289 (by decide) ?_
  exact law_end hC hr hlocks hX hbl hbA hAs hl9 _ _ (kW.sub hw [] rfl rfl) (by decide) (by decide) _ (lv_sub hl [2, 6] rfl)

set_option maxHeartbeats 4000000 in
set_option maxRecDepth 100000 in
theorem lc_29_d {γ : kΓ} {l : Launch} {p : Program} {e : Env} {s : State} {m : MethodId} {below : List Frame} {meth : Method} {c : Code} {A : Nat → Prop} {b : Nat} {xs : Nat → Int32} (hC : kC γ p s m [Value.ref b].toArray c code 7 RL A) (hr : meth.sig.returnType = ret) (hlocks : meth.locks = false) (hX : va_X b 7 xs s s.heap) (hbl : b < s.heap.size) (hbA : ¬ A b) (hAs : ∀ q, A q → s.heap.size ≤ q) (hl9 : l.stackTraces = false) (x : Nat) (x0 : Nat) (x1 : Nat) (x2 : Nat) (x3 : Nat) (x4 : Nat) (x5 : Nat) (x6 : Nat) (x7 : Nat) (x8 : Nat) (x9 : Nat) (x10 : Nat) (z : Nat) (z2 : Nat) (z10 : Nat) (z11 : Nat) (z12 : Nat) (z13 : Nat) (z14 : Nat) (z15 : Nat) (z16 : Nat) (z17 : Nat) (z18 : Nat) (z19 : Nat) (z22 : Nat) (z23 : Nat) (z24 : Nat) (z25 : Nat) (z26 : Nat) (z27 : Nat) (z28 : Nat) (z29 : Nat) (z30 : Nat) (z31 : Nat) (z32 : Nat) (z33 : Nat) (z36 : Nat) (z37 : Nat) (z38 : Nat) (z39 : Nat) (z40 : Nat) (z41 : Nat) (z42 : Nat) (z43 : Nat) (z44 : Nat) (z45 : Nat) (z46 : Nat) (z47 : Nat) (z48 : Nat) (z55 : Nat) (z56 : Nat) (z59 : Nat) (z60 : Nat) (z61 : Nat) (ou : Nat) (hs0 : ¬ xs 1 < 0) (hs1 : ¬ 9999 < xs 1) (h1 : ¬ xs 2 < 1) (h2 : 99 < xs 2) (H : Heap) (locs : List Loc) (hw : kW γ A [(x, .inr (10, [.ref x0, .ref x1, .ref x2, .ref x3, .ref x4, .ref x5, .ref x6, .ref x7, .ref x8, .ref x9, .ref x10])), (z, .inr (11, [.int 0, .int 0, .ref z2, .int 0, .int 0, .int 0, .int 0, .long 0, .int 0, .int 0, .ref z10, .ref z11, .ref z12, .ref z13, .ref z14, .ref z15, .ref z16, .ref z17, .ref z18, .ref z19, .int 0, .int 0, .ref z22, .ref z23, .ref z24, .ref z25, .ref z26, .ref z27, .ref z28, .ref z29, .ref z30, .ref z31, .ref z32, .ref z33, .int 0, .long 0, .ref z36, .ref z37, .ref z38, .ref z39, .ref z40, .ref z41, .ref z42, .ref z43, .ref z44, .ref z45, .ref z46, .ref z47, .ref z48, .int 0, .int 10, .int 0, .int 0, .int 0, .int 0, .ref z55, .ref z56, .int 0, .int 0, .ref z59, .ref z60, .ref z61, .int 0, .long 0])), (ou, .inl (γ.2.1 1, 1, .inr (.inl (fun _ => 0))))] s H locs) (ls : Array Slot) (hl : lv_has ls 7 [(4, .int 0), (3, .ref ou), (2, .ref z), (1, .ref x), (0, .ref b)]) : W p l e room_1 s m [Value.ref b].toArray below meth c H locs 251 13922 (lw_Z below #[Value.ref b] s) (F0 m 1212 ls []) := by
  have hx := hC.1
  have hb := hC.2.1
  refine lv_aload_n hx hb dL_law_1212 rfl (lv_at hl 3 rfl) ?_
  refine lv_aload_n hx hb dL_law_1213 rfl (lv_at hl 4 rfl) ?_
  refine lv_iload hx hb dL_law_1214 (lv_at hl 0 rfl) ?_
  refine lv_iconst (v := 1) hx hb dL_law_1216 (by decide) ?_
  refine lv_iadd hx hb dL_law_1217 ?_
  refine lv_topi (fun x_2353 ex_2353 => ?_)
  obtain rfl : x_2353 = 1 := ex_2353.trans (by decide)
  refine va_sld hx hb hX hbl hbA hw.2.2 (k_in0 (by decide)) dL_law_1218 ?_
  refine lv_topi (fun x_2354 ex_2354 => ?_)
  obtain rfl : x_2354 = xs 1 := ex_2354
  refine lv_aload_n hx hb dL_law_1219 rfl (lv_at hl 4 rfl) ?_
  refine lv_iload hx hb dL_law_1220 (lv_at hl 0 rfl) ?_
  refine lv_iconst (v := 2) hx hb dL_law_1222 (by decide) ?_
  refine lv_iadd hx hb dL_law_1223 ?_
  refine lv_topi (fun x_2355 ex_2355 => ?_)
  obtain rfl : x_2355 = 2 := ex_2355.trans (by decide)
  refine va_sld hx hb hX hbl hbA hw.2.2 (k_in0 (by decide)) dL_law_1224 ?_
  refine lv_topi (fun x_2356 ex_2356 => ?_)
  obtain rfl : x_2356 = xs 2 := ex_2356
  refine lv_aload_n hx hb dL_law_1225 rfl (lv_at hl 4 rfl) ?_
  refine lv_iload hx hb dL_law_1226 (lv_at hl 0 rfl) ?_
  refine lv_iconst (v := 3) hx hb dL_law_1228 (by decide) ?_
  refine lv_iadd hx hb dL_law_1229 ?_
  refine lv_topi (fun x_2357 ex_2357 => ?_)
  obtain rfl : x_2357 = 3 := ex_2357.trans (by decide)
  refine va_sld hx hb hX hbl hbA hw.2.2 (k_in0 (by decide)) dL_law_1230 ?_
  refine lv_topi (fun x_2358 ex_2358 => ?_)
  obtain rfl : x_2358 = xs 3 := ex_2358
  refine lv_aload_n hx hb dL_law_1231 rfl (lv_at hl 1 rfl) ?_
  refine k_SW (wr := [(z, .inr (11, [.int 0, .int 0, .ref z2, .int 0, .int 0, .int 0, .int 0, .long 0, .int 0, .int 0, .ref z10, .ref z11, .ref z12, .ref z13, .ref z14, .ref z15, .ref z16, .ref z17, .ref z18, .ref z19, .int 0, .int 0, .ref z22, .ref z23, .ref z24, .ref z25, .ref z26, .ref z27, .ref z28, .ref z29, .ref z30, .ref z31, .ref z32, .ref z33, .int 0, .long 0, .ref z36, .ref z37, .ref z38, .ref z39, .ref z40, .ref z41, .ref z42, .ref z43, .ref z44, .ref z45, .ref z46, .ref z47, .ref z48, .int 0, .int 10, .int 0, .int 0, .int 0, .int 0, .ref z55, .ref z56, .int 0, .int 0, .ref z59, .ref z60, .ref z61, .int 0, .long 0]))]) 5 gw_1162 gw_1163 gw_0 gw_1164 hd_L_lives hC hw (c_L_lives_d γ l hl9 x x0 x1 x2 x3 x4 x5 x6 x7 x8 x9 x10 (xs 1) (xs 2) (xs 3) ou (fun _ => 0) hs0 hs1 h1 h2) ⟨by decide, by decide⟩ ⟨by decide, by decide⟩ hl.1 rfl rfl (Nat.le_of_ble_eq_true rfl) [0, 2] [1] rfl rfl rfl rfl (by decide) dL_law_1232 (fun r w1 H locs hq hw => ?_)
  obtain ⟨rfl, rfl⟩ := hq
  have hw : kW γ A [(z, .inr (11, [.int 0, .int 0, .ref z2, .int 0, .int 0, .int 0, .int 0, .long 0, .int 0, .int 0, .ref z10, .ref z11, .ref z12, .ref z13, .ref z14, .ref z15, .ref z16, .ref z17, .ref z18, .ref z19, .int 0, .int 0, .ref z22, .ref z23, .ref z24, .ref z25, .ref z26, .ref z27, .ref z28, .ref z29, .ref z30, .ref z31, .ref z32, .ref z33, .int 0, .long 0, .ref z36, .ref z37, .ref z38, .ref z39, .ref z40, .ref z41, .ref z42, .ref z43, .ref z44, .ref z45, .ref z46, .ref z47, .ref z48, .int 0, .int 10, .int 0, .int 0, .int 0, .int 0, .ref z55, .ref z56, .int 0, .int 0, .ref z59, .ref z60, .ref z61, .int 0, .long 0])), (ou, .inl (γ.2.1 1, 1, .inr (.inl (fun _ => 0))))] s H locs := hw
  refine W.eq (g2 := F0 m 1235 ls [.int 1]) rfl ?_
  refine W.widen (k := 252) (n := 13928) (by decide) (by decide) ?_
  refine lv_istore (lv' := [(5, .int 1), (4, .int 0), (3, .ref ou), (2, .ref z), (1, .ref x), (0, .ref b)]) hx hb dL_law_1235 hl (by decide) rfl (fun ls hl => ?_)
  refine lv_aload_n hx hb dL_law_1237 rfl (lv_at hl 3 rfl) ?_
  refine lv_aload_n hx hb dL_law_1238 rfl (lv_at hl 5 rfl) ?_
  refine lv_iload hx hb dL_law_1239 (lv_at hl 1 rfl) ?_
  refine lv_iconst (v := 1) hx hb dL_law_1241 (by decide) ?_
  refine lv_iadd hx hb dL_law_1242 ?_
  refine lv_topi (fun x_2359 ex_2359 => ?_)
  obtain rfl : x_2359 = 1 := ex_2359.trans (by decide)
  refine va_sld hx hb hX hbl hbA hw.2.2 (k_in0 (by decide)) dL_law_1243 ?_
  refine lv_topi (fun x_2360 ex_2360 => ?_)
  obtain rfl : x_2360 = xs 1 := ex_2360
  refine lv_aload_n hx hb dL_law_1244 rfl (lv_at hl 5 rfl) ?_
  refine lv_iload hx hb dL_law_1245 (lv_at hl 1 rfl) ?_
  refine lv_iconst (v := 2) hx hb dL_law_1247 (by decide) ?_
  refine lv_iadd hx hb dL_law_1248 ?_
  refine lv_topi (fun x_2361 ex_2361 => ?_)
  obtain rfl : x_2361 = 2 := ex_2361.trans (by decide)
  refine va_sld hx hb hX hbl hbA hw.2.2 (k_in0 (by decide)) dL_law_1249 ?_
  refine lv_topi (fun x_2362 ex_2362 => ?_)
  obtain rfl : x_2362 = xs 2 := ex_2362
  refine lv_aload_n hx hb dL_law_1250 rfl (lv_at hl 5 rfl) ?_
  refine lv_iload hx hb dL_law_1251 (lv_at hl 1 rfl) ?_
  refine lv_iconst (v := 3) hx hb dL_law_1253 (by decide) ?_
  refine lv_iadd hx hb dL_law_1254 ?_
  refine lv_topi (fun x_2363 ex_2363 => ?_)
  obtain rfl : x_2363 = 3 := ex_2363.trans (by decide)
  refine va_sld hx hb hX hbl hbA hw.2.2 (k_in0 (by decide)) dL_law_1255 ?_
  refine lv_topi (fun x_2364 ex_2364 => ?_)
  obtain rfl : x_2364 = xs 3 := ex_2364
  refine k_V (wr := [(ou, .inl (γ.2.1 1, 1, .inr (.inl (fun _ => 0))))]) 3 gw_1787 gw_1788 gw_1789 gw_15 gw_1790 hd_X12_lives hC hw (c_X12_lives_d γ l z z2 z10 z11 z12 z13 z14 z15 z16 z17 z18 z19 z22 z23 z24 z25 z26 z27 z28 z29 z30 z31 z32 z33 z36 z37 z38 z39 z40 z41 z42 z43 z44 z45 z46 z47 z48 z55 z56 z59 z60 z61 (xs 1) (xs 2) (xs 3) hs0 hs1 h1 h2) ⟨by decide, by decide⟩ ⟨by decide, by decide⟩ hl.1 rfl 0 rfl rfl rfl (Nat.le_of_ble_eq_true rfl) [0] [1] rfl rfl rfl rfl (by decide) dL_law_1256 (fun r w1 H locs hq hw => ?_)
  obtain ⟨rfl, rfl⟩ := hq
  have hw : kW γ A [(ou, .inl (γ.2.1 1, 1, .inr (.inl (fun _ => 0)))), (z, .inr (11, [.int 1, .int 0, .ref z2, .int 0, .int 0, .int 0, .int 0, .long 0, .int 0, .int 0, .ref z10, .ref z11, .ref z12, .ref z13, .ref z14, .ref z15, .ref z16, .ref z17, .ref z18, .ref z19, .int 0, .int 0, .ref z22, .ref z23, .ref z24, .ref z25, .ref z26, .ref z27, .ref z28, .ref z29, .ref z30, .ref z31, .ref z32, .ref z33, .int 0, .long 0, .ref z36, .ref z37, .ref z38, .ref z39, .ref z40, .ref z41, .ref z42, .ref z43, .ref z44, .ref z45, .ref z46, .ref z47, .ref z48, .int 0, .int 10, .int 0, .int 0, .int 0, .int 0, .ref z55, .ref z56, .int 0, .int 0, .ref z59, .ref z60, .ref z61, .int 0, .long 0]))] s H locs := hw
  refine W.eq (g2 := F0 m 1259 ls [.int 0]) rfl ?_
  refine lv_istore (lv' := [(6, .int 0), (5, .int 1), (4, .int 0), (3, .ref ou), (2, .ref z), (1, .ref x), (0, .ref b)]) hx hb dL_law_1259 hl (by decide) rfl (fun ls hl => ?_)
  refine lv_aload_n hx hb dL_law_1261 rfl (lv_at hl 4 rfl) ?_
  refine k_V (wr := [(ou, .inl (γ.2.1 1, 1, .inr (.inl (fun _ => 0))))]) 0 gw_1385 gw_1386 gw_1387 gw_15 gw_1388 hd_X12_thrown hC hw (c_X12_thrown γ l z z2 z10 z11 z12 z13 z14 z15 z16 z17 z18 z19 z22 z23 z24 z25 z26 z27 z28 z29 z30 z31 z32 z33 z36 z37 z38 z39 z40 z41 z42 z43 z44 z45 z46 z47 z48 z55 z56 z59 z60 z61 0 0 0 0 0 0 0 0 0 0 0 0 0 10 0 0 0 0 0 0 0 0 1) ⟨by decide, by decide⟩ ⟨by decide, by decide⟩ hl.1 rfl 1 rfl rfl rfl (Nat.le_of_ble_eq_true rfl) [1] [0] rfl rfl rfl rfl (by decide) dL_law_1262 (fun r w1 H locs hq hw => ?_)
  obtain ⟨rfl, rfl⟩ := hq
  have hw : kW γ A [(ou, .inl (γ.2.1 1, 1, .inr (.inl (fun _ => 0))))] s H locs := hw
  refine W.eq (g2 := F0 m 1265 ls [.int 1]) rfl ?_
  refine lv_iload hx hb dL_law_1265 (lv_at hl 1 rfl) ?_
  refine lv_icmp_eq (tgt := 1272) hx hb dL_law_1267 (by decide) (fun _ => ?_) (fun h => absurd (by decide) h)
  refine lv_iload hx hb dL_law_1272 (lv_at hl 1 rfl) ?_
  refine lv_if_ne (tgt := 1289) hx hb dL_law_1274 (by decide) (fun _ => ?_) (fun h => absurd h (by decide))
  refine lv_goto (tgt := 1370) hx hb dL_law_1289 (by decide) ?_
  exact law_end hC hr hlocks hX hbl hbA hAs hl9 _ _ (kW.sub hw [] rfl rfl) (by decide) (by decide) _ (lv_sub hl [2, 6] rfl)

set_option maxHeartbeats 4000000 in
set_option maxRecDepth 100000 in
theorem lc_29_e {γ : kΓ} {l : Launch} {p : Program} {e : Env} {s : State} {m : MethodId} {below : List Frame} {meth : Method} {c : Code} {A : Nat → Prop} {b : Nat} {xs : Nat → Int32} (hC : kC γ p s m [Value.ref b].toArray c code 7 RL A) (hr : meth.sig.returnType = ret) (hlocks : meth.locks = false) (hX : va_X b 7 xs s s.heap) (hbl : b < s.heap.size) (hbA : ¬ A b) (hAs : ∀ q, A q → s.heap.size ≤ q) (hl9 : l.stackTraces = false) (x : Nat) (x0 : Nat) (x1 : Nat) (x2 : Nat) (x3 : Nat) (x4 : Nat) (x5 : Nat) (x6 : Nat) (x7 : Nat) (x8 : Nat) (x9 : Nat) (x10 : Nat) (z : Nat) (z2 : Nat) (z10 : Nat) (z11 : Nat) (z12 : Nat) (z13 : Nat) (z14 : Nat) (z15 : Nat) (z16 : Nat) (z17 : Nat) (z18 : Nat) (z19 : Nat) (z22 : Nat) (z23 : Nat) (z24 : Nat) (z25 : Nat) (z26 : Nat) (z27 : Nat) (z28 : Nat) (z29 : Nat) (z30 : Nat) (z31 : Nat) (z32 : Nat) (z33 : Nat) (z36 : Nat) (z37 : Nat) (z38 : Nat) (z39 : Nat) (z40 : Nat) (z41 : Nat) (z42 : Nat) (z43 : Nat) (z44 : Nat) (z45 : Nat) (z46 : Nat) (z47 : Nat) (z48 : Nat) (z55 : Nat) (z56 : Nat) (z59 : Nat) (z60 : Nat) (z61 : Nat) (ou : Nat) (hs0 : ¬ xs 1 < 0) (hs1 : ¬ 9999 < xs 1) (hs2 : ¬ xs 2 < 1) (hs3 : ¬ 99 < xs 2) (h1 : xs 3 < 0) (H : Heap) (locs : List Loc) (hw : kW γ A [(x, .inr (10, [.ref x0, .ref x1, .ref x2, .ref x3, .ref x4, .ref x5, .ref x6, .ref x7, .ref x8, .ref x9, .ref x10])), (z, .inr (11, [.int 0, .int 0, .ref z2, .int 0, .int 0, .int 0, .int 0, .long 0, .int 0, .int 0, .ref z10, .ref z11, .ref z12, .ref z13, .ref z14, .ref z15, .ref z16, .ref z17, .ref z18, .ref z19, .int 0, .int 0, .ref z22, .ref z23, .ref z24, .ref z25, .ref z26, .ref z27, .ref z28, .ref z29, .ref z30, .ref z31, .ref z32, .ref z33, .int 0, .long 0, .ref z36, .ref z37, .ref z38, .ref z39, .ref z40, .ref z41, .ref z42, .ref z43, .ref z44, .ref z45, .ref z46, .ref z47, .ref z48, .int 0, .int 10, .int 0, .int 0, .int 0, .int 0, .ref z55, .ref z56, .int 0, .int 0, .ref z59, .ref z60, .ref z61, .int 0, .long 0])), (ou, .inl (γ.2.1 1, 1, .inr (.inl (fun _ => 0))))] s H locs) (ls : Array Slot) (hl : lv_has ls 7 [(4, .int 0), (3, .ref ou), (2, .ref z), (1, .ref x), (0, .ref b)]) : W p l e room_1 s m [Value.ref b].toArray below meth c H locs 251 13922 (lw_Z below #[Value.ref b] s) (F0 m 1212 ls []) := by
  have hx := hC.1
  have hb := hC.2.1
  refine lv_aload_n hx hb dL_law_1212 rfl (lv_at hl 3 rfl) ?_
  refine lv_aload_n hx hb dL_law_1213 rfl (lv_at hl 4 rfl) ?_
  refine lv_iload hx hb dL_law_1214 (lv_at hl 0 rfl) ?_
  refine lv_iconst (v := 1) hx hb dL_law_1216 (by decide) ?_
  refine lv_iadd hx hb dL_law_1217 ?_
  refine lv_topi (fun x_2365 ex_2365 => ?_)
  obtain rfl : x_2365 = 1 := ex_2365.trans (by decide)
  refine va_sld hx hb hX hbl hbA hw.2.2 (k_in0 (by decide)) dL_law_1218 ?_
  refine lv_topi (fun x_2366 ex_2366 => ?_)
  obtain rfl : x_2366 = xs 1 := ex_2366
  refine lv_aload_n hx hb dL_law_1219 rfl (lv_at hl 4 rfl) ?_
  refine lv_iload hx hb dL_law_1220 (lv_at hl 0 rfl) ?_
  refine lv_iconst (v := 2) hx hb dL_law_1222 (by decide) ?_
  refine lv_iadd hx hb dL_law_1223 ?_
  refine lv_topi (fun x_2367 ex_2367 => ?_)
  obtain rfl : x_2367 = 2 := ex_2367.trans (by decide)
  refine va_sld hx hb hX hbl hbA hw.2.2 (k_in0 (by decide)) dL_law_1224 ?_
  refine lv_topi (fun x_2368 ex_2368 => ?_)
  obtain rfl : x_2368 = xs 2 := ex_2368
  refine lv_aload_n hx hb dL_law_1225 rfl (lv_at hl 4 rfl) ?_
  refine lv_iload hx hb dL_law_1226 (lv_at hl 0 rfl) ?_
  refine lv_iconst (v := 3) hx hb dL_law_1228 (by decide) ?_
  refine lv_iadd hx hb dL_law_1229 ?_
  refine lv_topi (fun x_2369 ex_2369 => ?_)
  obtain rfl : x_2369 = 3 := ex_2369.trans (by decide)
  refine va_sld hx hb hX hbl hbA hw.2.2 (k_in0 (by decide)) dL_law_1230 ?_
  refine lv_topi (fun x_2370 ex_2370 => ?_)
  obtain rfl : x_2370 = xs 3 := ex_2370
  refine lv_aload_n hx hb dL_law_1231 rfl (lv_at hl 1 rfl) ?_
  refine k_SW (wr := [(z, .inr (11, [.int 0, .int 0, .ref z2, .int 0, .int 0, .int 0, .int 0, .long 0, .int 0, .int 0, .ref z10, .ref z11, .ref z12, .ref z13, .ref z14, .ref z15, .ref z16, .ref z17, .ref z18, .ref z19, .int 0, .int 0, .ref z22, .ref z23, .ref z24, .ref z25, .ref z26, .ref z27, .ref z28, .ref z29, .ref z30, .ref z31, .ref z32, .ref z33, .int 0, .long 0, .ref z36, .ref z37, .ref z38, .ref z39, .ref z40, .ref z41, .ref z42, .ref z43, .ref z44, .ref z45, .ref z46, .ref z47, .ref z48, .int 0, .int 10, .int 0, .int 0, .int 0, .int 0, .ref z55, .ref z56, .int 0, .int 0, .ref z59, .ref z60, .ref z61, .int 0, .long 0]))]) 5 gw_1162 gw_1163 gw_0 gw_1164 hd_L_lives hC hw (c_L_lives_e γ l hl9 x x0 x1 x2 x3 x4 x5 x6 x7 x8 x9 x10 (xs 1) (xs 2) (xs 3) ou (fun _ => 0) hs0 hs1 hs2 hs3 h1) ⟨by decide, by decide⟩ ⟨by decide, by decide⟩ hl.1 rfl rfl (Nat.le_of_ble_eq_true rfl) [0, 2] [1] rfl rfl rfl rfl (by decide) dL_law_1232 (fun r w1 H locs hq hw => ?_)
  obtain ⟨rfl, rfl⟩ := hq
  have hw : kW γ A [(z, .inr (11, [.int 0, .int 0, .ref z2, .int 0, .int 0, .int 0, .int 0, .long 0, .int 0, .int 0, .ref z10, .ref z11, .ref z12, .ref z13, .ref z14, .ref z15, .ref z16, .ref z17, .ref z18, .ref z19, .int 0, .int 0, .ref z22, .ref z23, .ref z24, .ref z25, .ref z26, .ref z27, .ref z28, .ref z29, .ref z30, .ref z31, .ref z32, .ref z33, .int 0, .long 0, .ref z36, .ref z37, .ref z38, .ref z39, .ref z40, .ref z41, .ref z42, .ref z43, .ref z44, .ref z45, .ref z46, .ref z47, .ref z48, .int 0, .int 10, .int 0, .int 0, .int 0, .int 0, .ref z55, .ref z56, .int 0, .int 0, .ref z59, .ref z60, .ref z61, .int 0, .long 0])), (ou, .inl (γ.2.1 1, 1, .inr (.inl (fun _ => 0))))] s H locs := hw
  refine W.eq (g2 := F0 m 1235 ls [.int 1]) rfl ?_
  refine W.widen (k := 252) (n := 13928) (by decide) (by decide) ?_
  refine lv_istore (lv' := [(5, .int 1), (4, .int 0), (3, .ref ou), (2, .ref z), (1, .ref x), (0, .ref b)]) hx hb dL_law_1235 hl (by decide) rfl (fun ls hl => ?_)
  refine lv_aload_n hx hb dL_law_1237 rfl (lv_at hl 3 rfl) ?_
  refine lv_aload_n hx hb dL_law_1238 rfl (lv_at hl 5 rfl) ?_
  refine lv_iload hx hb dL_law_1239 (lv_at hl 1 rfl) ?_
  refine lv_iconst (v := 1) hx hb dL_law_1241 (by decide) ?_
  refine lv_iadd hx hb dL_law_1242 ?_
  refine lv_topi (fun x_2371 ex_2371 => ?_)
  obtain rfl : x_2371 = 1 := ex_2371.trans (by decide)
  refine va_sld hx hb hX hbl hbA hw.2.2 (k_in0 (by decide)) dL_law_1243 ?_
  refine lv_topi (fun x_2372 ex_2372 => ?_)
  obtain rfl : x_2372 = xs 1 := ex_2372
  refine lv_aload_n hx hb dL_law_1244 rfl (lv_at hl 5 rfl) ?_
  refine lv_iload hx hb dL_law_1245 (lv_at hl 1 rfl) ?_
  refine lv_iconst (v := 2) hx hb dL_law_1247 (by decide) ?_
  refine lv_iadd hx hb dL_law_1248 ?_
  refine lv_topi (fun x_2373 ex_2373 => ?_)
  obtain rfl : x_2373 = 2 := ex_2373.trans (by decide)
  refine va_sld hx hb hX hbl hbA hw.2.2 (k_in0 (by decide)) dL_law_1249 ?_
  refine lv_topi (fun x_2374 ex_2374 => ?_)
  obtain rfl : x_2374 = xs 2 := ex_2374
  refine lv_aload_n hx hb dL_law_1250 rfl (lv_at hl 5 rfl) ?_
  refine lv_iload hx hb dL_law_1251 (lv_at hl 1 rfl) ?_
  refine lv_iconst (v := 3) hx hb dL_law_1253 (by decide) ?_
  refine lv_iadd hx hb dL_law_1254 ?_
  refine lv_topi (fun x_2375 ex_2375 => ?_)
  obtain rfl : x_2375 = 3 := ex_2375.trans (by decide)
  refine va_sld hx hb hX hbl hbA hw.2.2 (k_in0 (by decide)) dL_law_1255 ?_
  refine lv_topi (fun x_2376 ex_2376 => ?_)
  obtain rfl : x_2376 = xs 3 := ex_2376
  refine k_V (wr := [(ou, .inl (γ.2.1 1, 1, .inr (.inl (fun _ => 0))))]) 3 gw_1787 gw_1788 gw_1789 gw_15 gw_1790 hd_X12_lives hC hw (c_X12_lives_e γ l z z2 z10 z11 z12 z13 z14 z15 z16 z17 z18 z19 z22 z23 z24 z25 z26 z27 z28 z29 z30 z31 z32 z33 z36 z37 z38 z39 z40 z41 z42 z43 z44 z45 z46 z47 z48 z55 z56 z59 z60 z61 (xs 1) (xs 2) (xs 3) hs0 hs1 hs2 hs3 h1) ⟨by decide, by decide⟩ ⟨by decide, by decide⟩ hl.1 rfl 0 rfl rfl rfl (Nat.le_of_ble_eq_true rfl) [0] [1] rfl rfl rfl rfl (by decide) dL_law_1256 (fun r w1 H locs hq hw => ?_)
  obtain ⟨rfl, rfl⟩ := hq
  have hw : kW γ A [(ou, .inl (γ.2.1 1, 1, .inr (.inl (fun _ => 0)))), (z, .inr (11, [.int 1, .int 0, .ref z2, .int 0, .int 0, .int 0, .int 0, .long 0, .int 0, .int 0, .ref z10, .ref z11, .ref z12, .ref z13, .ref z14, .ref z15, .ref z16, .ref z17, .ref z18, .ref z19, .int 0, .int 0, .ref z22, .ref z23, .ref z24, .ref z25, .ref z26, .ref z27, .ref z28, .ref z29, .ref z30, .ref z31, .ref z32, .ref z33, .int 0, .long 0, .ref z36, .ref z37, .ref z38, .ref z39, .ref z40, .ref z41, .ref z42, .ref z43, .ref z44, .ref z45, .ref z46, .ref z47, .ref z48, .int 0, .int 10, .int 0, .int 0, .int 0, .int 0, .ref z55, .ref z56, .int 0, .int 0, .ref z59, .ref z60, .ref z61, .int 0, .long 0]))] s H locs := hw
  refine W.eq (g2 := F0 m 1259 ls [.int 0]) rfl ?_
  refine lv_istore (lv' := [(6, .int 0), (5, .int 1), (4, .int 0), (3, .ref ou), (2, .ref z), (1, .ref x), (0, .ref b)]) hx hb dL_law_1259 hl (by decide) rfl (fun ls hl => ?_)
  refine lv_aload_n hx hb dL_law_1261 rfl (lv_at hl 4 rfl) ?_
  refine k_V (wr := [(ou, .inl (γ.2.1 1, 1, .inr (.inl (fun _ => 0))))]) 0 gw_1385 gw_1386 gw_1387 gw_15 gw_1388 hd_X12_thrown hC hw (c_X12_thrown γ l z z2 z10 z11 z12 z13 z14 z15 z16 z17 z18 z19 z22 z23 z24 z25 z26 z27 z28 z29 z30 z31 z32 z33 z36 z37 z38 z39 z40 z41 z42 z43 z44 z45 z46 z47 z48 z55 z56 z59 z60 z61 0 0 0 0 0 0 0 0 0 0 0 0 0 10 0 0 0 0 0 0 0 0 1) ⟨by decide, by decide⟩ ⟨by decide, by decide⟩ hl.1 rfl 1 rfl rfl rfl (Nat.le_of_ble_eq_true rfl) [1] [0] rfl rfl rfl rfl (by decide) dL_law_1262 (fun r w1 H locs hq hw => ?_)
  obtain ⟨rfl, rfl⟩ := hq
  have hw : kW γ A [(ou, .inl (γ.2.1 1, 1, .inr (.inl (fun _ => 0))))] s H locs := hw
  refine W.eq (g2 := F0 m 1265 ls [.int 1]) rfl ?_
  refine lv_iload hx hb dL_law_1265 (lv_at hl 1 rfl) ?_
  refine lv_icmp_eq (tgt := 1272) hx hb dL_law_1267 (by decide) (fun _ => ?_) (fun h => absurd (by decide) h)
  refine lv_iload hx hb dL_law_1272 (lv_at hl 1 rfl) ?_
  refine lv_if_ne (tgt := 1289) hx hb dL_law_1274 (by decide) (fun _ => ?_) (fun h => absurd h (by decide))
  refine lv_goto (tgt := 1370) hx hb dL_law_1289 (by decide) ?_
  exact law_end hC hr hlocks hX hbl hbA hAs hl9 _ _ (kW.sub hw [] rfl rfl) (by decide) (by decide) _ (lv_sub hl [2, 6] rfl)

set_option maxHeartbeats 4000000 in
set_option maxRecDepth 100000 in
theorem lc_29_f {γ : kΓ} {l : Launch} {p : Program} {e : Env} {s : State} {m : MethodId} {below : List Frame} {meth : Method} {c : Code} {A : Nat → Prop} {b : Nat} {xs : Nat → Int32} (hC : kC γ p s m [Value.ref b].toArray c code 7 RL A) (hr : meth.sig.returnType = ret) (hlocks : meth.locks = false) (hX : va_X b 7 xs s s.heap) (hbl : b < s.heap.size) (hbA : ¬ A b) (hAs : ∀ q, A q → s.heap.size ≤ q) (hl9 : l.stackTraces = false) (x : Nat) (x0 : Nat) (x1 : Nat) (x2 : Nat) (x3 : Nat) (x4 : Nat) (x5 : Nat) (x6 : Nat) (x7 : Nat) (x8 : Nat) (x9 : Nat) (x10 : Nat) (z : Nat) (z2 : Nat) (z10 : Nat) (z11 : Nat) (z12 : Nat) (z13 : Nat) (z14 : Nat) (z15 : Nat) (z16 : Nat) (z17 : Nat) (z18 : Nat) (z19 : Nat) (z22 : Nat) (z23 : Nat) (z24 : Nat) (z25 : Nat) (z26 : Nat) (z27 : Nat) (z28 : Nat) (z29 : Nat) (z30 : Nat) (z31 : Nat) (z32 : Nat) (z33 : Nat) (z36 : Nat) (z37 : Nat) (z38 : Nat) (z39 : Nat) (z40 : Nat) (z41 : Nat) (z42 : Nat) (z43 : Nat) (z44 : Nat) (z45 : Nat) (z46 : Nat) (z47 : Nat) (z48 : Nat) (z55 : Nat) (z56 : Nat) (z59 : Nat) (z60 : Nat) (z61 : Nat) (ou : Nat) (hs0 : ¬ xs 1 < 0) (hs1 : ¬ 9999 < xs 1) (hs2 : ¬ xs 2 < 1) (hs3 : ¬ 99 < xs 2) (h1 : ¬ xs 3 < 0) (h2 : 2 < xs 3) (H : Heap) (locs : List Loc) (hw : kW γ A [(x, .inr (10, [.ref x0, .ref x1, .ref x2, .ref x3, .ref x4, .ref x5, .ref x6, .ref x7, .ref x8, .ref x9, .ref x10])), (z, .inr (11, [.int 0, .int 0, .ref z2, .int 0, .int 0, .int 0, .int 0, .long 0, .int 0, .int 0, .ref z10, .ref z11, .ref z12, .ref z13, .ref z14, .ref z15, .ref z16, .ref z17, .ref z18, .ref z19, .int 0, .int 0, .ref z22, .ref z23, .ref z24, .ref z25, .ref z26, .ref z27, .ref z28, .ref z29, .ref z30, .ref z31, .ref z32, .ref z33, .int 0, .long 0, .ref z36, .ref z37, .ref z38, .ref z39, .ref z40, .ref z41, .ref z42, .ref z43, .ref z44, .ref z45, .ref z46, .ref z47, .ref z48, .int 0, .int 10, .int 0, .int 0, .int 0, .int 0, .ref z55, .ref z56, .int 0, .int 0, .ref z59, .ref z60, .ref z61, .int 0, .long 0])), (ou, .inl (γ.2.1 1, 1, .inr (.inl (fun _ => 0))))] s H locs) (ls : Array Slot) (hl : lv_has ls 7 [(4, .int 0), (3, .ref ou), (2, .ref z), (1, .ref x), (0, .ref b)]) : W p l e room_1 s m [Value.ref b].toArray below meth c H locs 251 13922 (lw_Z below #[Value.ref b] s) (F0 m 1212 ls []) := by
  have hx := hC.1
  have hb := hC.2.1
  refine lv_aload_n hx hb dL_law_1212 rfl (lv_at hl 3 rfl) ?_
  refine lv_aload_n hx hb dL_law_1213 rfl (lv_at hl 4 rfl) ?_
  refine lv_iload hx hb dL_law_1214 (lv_at hl 0 rfl) ?_
  refine lv_iconst (v := 1) hx hb dL_law_1216 (by decide) ?_
  refine lv_iadd hx hb dL_law_1217 ?_
  refine lv_topi (fun x_2377 ex_2377 => ?_)
  obtain rfl : x_2377 = 1 := ex_2377.trans (by decide)
  refine va_sld hx hb hX hbl hbA hw.2.2 (k_in0 (by decide)) dL_law_1218 ?_
  refine lv_topi (fun x_2378 ex_2378 => ?_)
  obtain rfl : x_2378 = xs 1 := ex_2378
  refine lv_aload_n hx hb dL_law_1219 rfl (lv_at hl 4 rfl) ?_
  refine lv_iload hx hb dL_law_1220 (lv_at hl 0 rfl) ?_
  refine lv_iconst (v := 2) hx hb dL_law_1222 (by decide) ?_
  refine lv_iadd hx hb dL_law_1223 ?_
  refine lv_topi (fun x_2379 ex_2379 => ?_)
  obtain rfl : x_2379 = 2 := ex_2379.trans (by decide)
  refine va_sld hx hb hX hbl hbA hw.2.2 (k_in0 (by decide)) dL_law_1224 ?_
  refine lv_topi (fun x_2380 ex_2380 => ?_)
  obtain rfl : x_2380 = xs 2 := ex_2380
  refine lv_aload_n hx hb dL_law_1225 rfl (lv_at hl 4 rfl) ?_
  refine lv_iload hx hb dL_law_1226 (lv_at hl 0 rfl) ?_
  refine lv_iconst (v := 3) hx hb dL_law_1228 (by decide) ?_
  refine lv_iadd hx hb dL_law_1229 ?_
  refine lv_topi (fun x_2381 ex_2381 => ?_)
  obtain rfl : x_2381 = 3 := ex_2381.trans (by decide)
  refine va_sld hx hb hX hbl hbA hw.2.2 (k_in0 (by decide)) dL_law_1230 ?_
  refine lv_topi (fun x_2382 ex_2382 => ?_)
  obtain rfl : x_2382 = xs 3 := ex_2382
  refine lv_aload_n hx hb dL_law_1231 rfl (lv_at hl 1 rfl) ?_
  refine k_SW (wr := [(z, .inr (11, [.int 0, .int 0, .ref z2, .int 0, .int 0, .int 0, .int 0, .long 0, .int 0, .int 0, .ref z10, .ref z11, .ref z12, .ref z13, .ref z14, .ref z15, .ref z16, .ref z17, .ref z18, .ref z19, .int 0, .int 0, .ref z22, .ref z23, .ref z24, .ref z25, .ref z26, .ref z27, .ref z28, .ref z29, .ref z30, .ref z31, .ref z32, .ref z33, .int 0, .long 0, .ref z36, .ref z37, .ref z38, .ref z39, .ref z40, .ref z41, .ref z42, .ref z43, .ref z44, .ref z45, .ref z46, .ref z47, .ref z48, .int 0, .int 10, .int 0, .int 0, .int 0, .int 0, .ref z55, .ref z56, .int 0, .int 0, .ref z59, .ref z60, .ref z61, .int 0, .long 0]))]) 5 gw_1162 gw_1163 gw_0 gw_1164 hd_L_lives hC hw (c_L_lives_f γ l hl9 x x0 x1 x2 x3 x4 x5 x6 x7 x8 x9 x10 (xs 1) (xs 2) (xs 3) ou (fun _ => 0) hs0 hs1 hs2 hs3 h1 h2) ⟨by decide, by decide⟩ ⟨by decide, by decide⟩ hl.1 rfl rfl (Nat.le_of_ble_eq_true rfl) [0, 2] [1] rfl rfl rfl rfl (by decide) dL_law_1232 (fun r w1 H locs hq hw => ?_)
  obtain ⟨rfl, rfl⟩ := hq
  have hw : kW γ A [(z, .inr (11, [.int 0, .int 0, .ref z2, .int 0, .int 0, .int 0, .int 0, .long 0, .int 0, .int 0, .ref z10, .ref z11, .ref z12, .ref z13, .ref z14, .ref z15, .ref z16, .ref z17, .ref z18, .ref z19, .int 0, .int 0, .ref z22, .ref z23, .ref z24, .ref z25, .ref z26, .ref z27, .ref z28, .ref z29, .ref z30, .ref z31, .ref z32, .ref z33, .int 0, .long 0, .ref z36, .ref z37, .ref z38, .ref z39, .ref z40, .ref z41, .ref z42, .ref z43, .ref z44, .ref z45, .ref z46, .ref z47, .ref z48, .int 0, .int 10, .int 0, .int 0, .int 0, .int 0, .ref z55, .ref z56, .int 0, .int 0, .ref z59, .ref z60, .ref z61, .int 0, .long 0])), (ou, .inl (γ.2.1 1, 1, .inr (.inl (fun _ => 0))))] s H locs := hw
  refine W.eq (g2 := F0 m 1235 ls [.int 1]) rfl ?_
  refine W.widen (k := 252) (n := 13928) (by decide) (by decide) ?_
  refine lv_istore (lv' := [(5, .int 1), (4, .int 0), (3, .ref ou), (2, .ref z), (1, .ref x), (0, .ref b)]) hx hb dL_law_1235 hl (by decide) rfl (fun ls hl => ?_)
  refine lv_aload_n hx hb dL_law_1237 rfl (lv_at hl 3 rfl) ?_
  refine lv_aload_n hx hb dL_law_1238 rfl (lv_at hl 5 rfl) ?_
  refine lv_iload hx hb dL_law_1239 (lv_at hl 1 rfl) ?_
  refine lv_iconst (v := 1) hx hb dL_law_1241 (by decide) ?_
  refine lv_iadd hx hb dL_law_1242 ?_
  refine lv_topi (fun x_2383 ex_2383 => ?_)
  obtain rfl : x_2383 = 1 := ex_2383.trans (by decide)
  refine va_sld hx hb hX hbl hbA hw.2.2 (k_in0 (by decide)) dL_law_1243 ?_
  refine lv_topi (fun x_2384 ex_2384 => ?_)
  obtain rfl : x_2384 = xs 1 := ex_2384
  refine lv_aload_n hx hb dL_law_1244 rfl (lv_at hl 5 rfl) ?_
  refine lv_iload hx hb dL_law_1245 (lv_at hl 1 rfl) ?_
  refine lv_iconst (v := 2) hx hb dL_law_1247 (by decide) ?_
  refine lv_iadd hx hb dL_law_1248 ?_
  refine lv_topi (fun x_2385 ex_2385 => ?_)
  obtain rfl : x_2385 = 2 := ex_2385.trans (by decide)
  refine va_sld hx hb hX hbl hbA hw.2.2 (k_in0 (by decide)) dL_law_1249 ?_
  refine lv_topi (fun x_2386 ex_2386 => ?_)
  obtain rfl : x_2386 = xs 2 := ex_2386
  refine lv_aload_n hx hb dL_law_1250 rfl (lv_at hl 5 rfl) ?_
  refine lv_iload hx hb dL_law_1251 (lv_at hl 1 rfl) ?_
  refine lv_iconst (v := 3) hx hb dL_law_1253 (by decide) ?_
  refine lv_iadd hx hb dL_law_1254 ?_
  refine lv_topi (fun x_2387 ex_2387 => ?_)
  obtain rfl : x_2387 = 3 := ex_2387.trans (by decide)
  refine va_sld hx hb hX hbl hbA hw.2.2 (k_in0 (by decide)) dL_law_1255 ?_
  refine lv_topi (fun x_2388 ex_2388 => ?_)
  obtain rfl : x_2388 = xs 3 := ex_2388
  refine k_V (wr := [(ou, .inl (γ.2.1 1, 1, .inr (.inl (fun _ => 0))))]) 3 gw_1787 gw_1788 gw_1789 gw_15 gw_1790 hd_X12_lives hC hw (c_X12_lives_f γ l z z2 z10 z11 z12 z13 z14 z15 z16 z17 z18 z19 z22 z23 z24 z25 z26 z27 z28 z29 z30 z31 z32 z33 z36 z37 z38 z39 z40 z41 z42 z43 z44 z45 z46 z47 z48 z55 z56 z59 z60 z61 (xs 1) (xs 2) (xs 3) hs0 hs1 hs2 hs3 h1 h2) ⟨by decide, by decide⟩ ⟨by decide, by decide⟩ hl.1 rfl 0 rfl rfl rfl (Nat.le_of_ble_eq_true rfl) [0] [1] rfl rfl rfl rfl (by decide) dL_law_1256 (fun r w1 H locs hq hw => ?_)
  obtain ⟨rfl, rfl⟩ := hq
  have hw : kW γ A [(ou, .inl (γ.2.1 1, 1, .inr (.inl (fun _ => 0)))), (z, .inr (11, [.int 1, .int 0, .ref z2, .int 0, .int 0, .int 0, .int 0, .long 0, .int 0, .int 0, .ref z10, .ref z11, .ref z12, .ref z13, .ref z14, .ref z15, .ref z16, .ref z17, .ref z18, .ref z19, .int 0, .int 0, .ref z22, .ref z23, .ref z24, .ref z25, .ref z26, .ref z27, .ref z28, .ref z29, .ref z30, .ref z31, .ref z32, .ref z33, .int 0, .long 0, .ref z36, .ref z37, .ref z38, .ref z39, .ref z40, .ref z41, .ref z42, .ref z43, .ref z44, .ref z45, .ref z46, .ref z47, .ref z48, .int 0, .int 10, .int 0, .int 0, .int 0, .int 0, .ref z55, .ref z56, .int 0, .int 0, .ref z59, .ref z60, .ref z61, .int 0, .long 0]))] s H locs := hw
  refine W.eq (g2 := F0 m 1259 ls [.int 0]) rfl ?_
  refine lv_istore (lv' := [(6, .int 0), (5, .int 1), (4, .int 0), (3, .ref ou), (2, .ref z), (1, .ref x), (0, .ref b)]) hx hb dL_law_1259 hl (by decide) rfl (fun ls hl => ?_)
  refine lv_aload_n hx hb dL_law_1261 rfl (lv_at hl 4 rfl) ?_
  refine k_V (wr := [(ou, .inl (γ.2.1 1, 1, .inr (.inl (fun _ => 0))))]) 0 gw_1385 gw_1386 gw_1387 gw_15 gw_1388 hd_X12_thrown hC hw (c_X12_thrown γ l z z2 z10 z11 z12 z13 z14 z15 z16 z17 z18 z19 z22 z23 z24 z25 z26 z27 z28 z29 z30 z31 z32 z33 z36 z37 z38 z39 z40 z41 z42 z43 z44 z45 z46 z47 z48 z55 z56 z59 z60 z61 0 0 0 0 0 0 0 0 0 0 0 0 0 10 0 0 0 0 0 0 0 0 1) ⟨by decide, by decide⟩ ⟨by decide, by decide⟩ hl.1 rfl 1 rfl rfl rfl (Nat.le_of_ble_eq_true rfl) [1] [0] rfl rfl rfl rfl (by decide) dL_law_1262 (fun r w1 H locs hq hw => ?_)
  obtain ⟨rfl, rfl⟩ := hq
  have hw : kW γ A [(ou, .inl (γ.2.1 1, 1, .inr (.inl (fun _ => 0))))] s H locs := hw
  refine W.eq (g2 := F0 m 1265 ls [.int 1]) rfl ?_
  refine lv_iload hx hb dL_law_1265 (lv_at hl 1 rfl) ?_
  refine lv_icmp_eq (tgt := 1272) hx hb dL_law_1267 (by decide) (fun _ => ?_) (fun h => absurd (by decide) h)
  refine lv_iload hx hb dL_law_1272 (lv_at hl 1 rfl) ?_
  refine lv_if_ne (tgt := 1289) hx hb dL_law_1274 (by decide) (fun _ => ?_) (fun h => absurd h (by decide))
  refine lv_goto (tgt := 1370) hx hb dL_law_1289 (by decide) ?_
  exact law_end hC hr hlocks hX hbl hbA hAs hl9 _ _ (kW.sub hw [] rfl rfl) (by decide) (by decide) _ (lv_sub hl [2, 6] rfl)

set_option maxHeartbeats 4000000 in
set_option maxRecDepth 100000 in
theorem lc_30_0 {γ : kΓ} {l : Launch} {p : Program} {e : Env} {s : State} {m : MethodId} {below : List Frame} {meth : Method} {c : Code} {A : Nat → Prop} {b : Nat} {xs : Nat → Int32} (hC : kC γ p s m [Value.ref b].toArray c code 7 RL A) (hr : meth.sig.returnType = ret) (hlocks : meth.locks = false) (hX : va_X b 7 xs s s.heap) (hbl : b < s.heap.size) (hbA : ¬ A b) (hAs : ∀ q, A q → s.heap.size ≤ q) (hl9 : l.stackTraces = false) (x : Nat) (x0 : Nat) (x1 : Nat) (x2 : Nat) (x3 : Nat) (x4 : Nat) (x5 : Nat) (x6 : Nat) (x7 : Nat) (x8 : Nat) (x9 : Nat) (x10 : Nat) (z : Nat) (z2 : Nat) (z10 : Nat) (z11 : Nat) (z12 : Nat) (z13 : Nat) (z14 : Nat) (z15 : Nat) (z16 : Nat) (z17 : Nat) (z18 : Nat) (z19 : Nat) (z22 : Nat) (z23 : Nat) (z24 : Nat) (z25 : Nat) (z26 : Nat) (z27 : Nat) (z28 : Nat) (z29 : Nat) (z30 : Nat) (z31 : Nat) (z32 : Nat) (z33 : Nat) (z36 : Nat) (z37 : Nat) (z38 : Nat) (z39 : Nat) (z40 : Nat) (z41 : Nat) (z42 : Nat) (z43 : Nat) (z44 : Nat) (z45 : Nat) (z46 : Nat) (z47 : Nat) (z48 : Nat) (z55 : Nat) (z56 : Nat) (z59 : Nat) (z60 : Nat) (z61 : Nat) (fm : Nat → Option Nat) (ma : Nat) (mas : Nat) (may : Nat) (maq : Nat) (mas_l : Nat) (mas_c : Nat) (mas_g : Nat) (mas_r : Nat) (mas_k : Nat) (mas_b : Nat) (fmas_l : Nat → Int32) (fmas_c : Nat → Int32) (fmas_g : Nat → Int32) (fmas_r : Nat → Int64) (fmas_k : Nat → Int32) (fmas_b : Nat → Int32) (fmay : Nat → Int32) (fmaq : Nat → Int32) (x2s : Nat) (x2y : Nat) (x2q : Nat) (x2s_l : Nat) (x2s_c : Nat) (x2s_g : Nat) (x2s_r : Nat) (x2s_k : Nat) (x2s_b : Nat) (fx2s_l : Nat → Int32) (fx2s_c : Nat → Int32) (fx2s_g : Nat → Int32) (fx2s_r : Nat → Int64) (fx2s_k : Nat → Int32) (fx2s_b : Nat → Int32) (fx2y : Nat → Int32) (fx2q : Nat → Int32) (ou : Nat) (hm0 : fm 0 = some ma) (hz : ∀ j, j < 5 → fx2s_g j = 0) (hv : xs 1 = 0) (H : Heap) (locs : List Loc) (hw : kW γ A [(x, .inr (10, [.ref x0, .ref x1, .ref x2, .ref x3, .ref x4, .ref x5, .ref x6, .ref x7, .ref x8, .ref x9, .ref x10])), (z, .inr (11, [.int 0, .int 0, .ref z2, .int 0, .int 0, .int 0, .int 0, .long 0, .int 0, .int 0, .ref z10, .ref z11, .ref z12, .ref z13, .ref z14, .ref z15, .ref z16, .ref z17, .ref z18, .ref z19, .int 0, .int 0, .ref z22, .ref z23, .ref z24, .ref z25, .ref z26, .ref z27, .ref z28, .ref z29, .ref z30, .ref z31, .ref z32, .ref z33, .int 0, .long 0, .ref z36, .ref z37, .ref z38, .ref z39, .ref z40, .ref z41, .ref z42, .ref z43, .ref z44, .ref z45, .ref z46, .ref z47, .ref z48, .int 0, .int 10, .int 0, .int 0, .int 0, .int 0, .ref z55, .ref z56, .int 0, .int 0, .ref z59, .ref z60, .ref z61, .int 0, .long 0])), (x3, .inl (γ.2.1 4, 4, .inr (.inr (.inr (.inr fm))))), (ma, .inr (3, [.ref mas, .ref may, .ref maq, .int 0, .int 0, .int 0])), (mas, .inr (7, [.ref mas_l, .ref mas_c, .ref mas_g, .ref mas_r, .ref mas_k, .ref mas_b, .int 0, .int 0, .int 0])), (mas_l, .inl (γ.2.1 0, 5, .inl fmas_l)), (mas_c, .inl (γ.2.1 0, 5, .inl fmas_c)), (mas_g, .inl (γ.2.1 0, 5, .inl fmas_g)), (mas_r, .inl (γ.2.1 1, 5, .inr (.inl fmas_r))), (mas_k, .inl (γ.2.1 0, 40, .inl fmas_k)), (mas_b, .inl (γ.2.1 0, 8, .inl fmas_b)), (may, .inl (γ.2.1 0, 40, .inl fmay)), (maq, .inl (γ.2.1 0, 8, .inl fmaq)), (x2, .inr (3, [.ref x2s, .ref x2y, .ref x2q, .int 0, .int 0, .int 0])), (x2s, .inr (7, [.ref x2s_l, .ref x2s_c, .ref x2s_g, .ref x2s_r, .ref x2s_k, .ref x2s_b, .int 0, .int 0, .int 0])), (x2s_l, .inl (γ.2.1 0, 5, .inl fx2s_l)), (x2s_c, .inl (γ.2.1 0, 5, .inl fx2s_c)), (x2s_g, .inl (γ.2.1 0, 5, .inl fx2s_g)), (x2s_r, .inl (γ.2.1 1, 5, .inr (.inl fx2s_r))), (x2s_k, .inl (γ.2.1 0, 40, .inl fx2s_k)), (x2s_b, .inl (γ.2.1 0, 8, .inl fx2s_b)), (x2y, .inl (γ.2.1 0, 40, .inl fx2y)), (x2q, .inl (γ.2.1 0, 8, .inl fx2q)), (z48, .inl (γ.2.1 3, 4, .inl (fun _ => 0))), (z36, .inl (γ.2.1 0, 6, .inl (fun _ => 0))), (z37, .inl (γ.2.1 0, 240, .inl (fun _ => 0))), (z38, .inl (γ.2.1 0, 240, .inl (fun _ => 0))), (z39, .inl (γ.2.1 0, 240, .inl (fun _ => 0))), (z40, .inl (γ.2.1 0, 5, .inl (fun _ => 0))), (z41, .inl (γ.2.1 0, 40, .inl (fun _ => 0))), (z42, .inl (γ.2.1 3, 40, .inl (fun _ => 0))), (z43, .inl (γ.2.1 0, 133, .inl (fun _ => 0))), (z46, .inl (γ.2.1 0, 532, .inl (fun _ => 0)))] s H locs) (ls : Array Slot) (hl : lv_has ls 7 [(4, .int 0), (3, .ref ou), (2, .ref z), (1, .ref x), (0, .ref b)]) : W p l e room_1 s m [Value.ref b].toArray below meth c H locs 251 13922 (lw_Z below #[Value.ref b] s) (F0 m 1292 ls []) := by
  have hx := hC.1
  have hb := hC.2.1
  refine lv_aload_n hx hb dL_law_1292 rfl (lv_at hl 3 rfl) ?_
  refine lv_aload_n hx hb dL_law_1293 rfl (lv_at hl 4 rfl) ?_
  refine lv_iload hx hb dL_law_1294 (lv_at hl 0 rfl) ?_
  refine lv_iconst (v := 1) hx hb dL_law_1296 (by decide) ?_
  refine lv_iadd hx hb dL_law_1297 ?_
  refine lv_topi (fun x_2389 ex_2389 => ?_)
  obtain rfl : x_2389 = 1 := ex_2389.trans (by decide)
  refine va_sld hx hb hX hbl hbA hw.2.2 (k_in0 (by decide)) dL_law_1298 ?_
  refine lv_topi (fun x_2390 ex_2390 => ?_)
  obtain rfl : x_2390 = 0 := (show x_2390 = xs 1 from ex_2390).trans hv
  refine lv_aload_n hx hb dL_law_1299 rfl (lv_at hl 4 rfl) ?_
  refine lv_iload hx hb dL_law_1300 (lv_at hl 0 rfl) ?_
  refine lv_iconst (v := 2) hx hb dL_law_1302 (by decide) ?_
  refine lv_iadd hx hb dL_law_1303 ?_
  refine lv_topi (fun x_2391 ex_2391 => ?_)
  obtain rfl : x_2391 = 2 := ex_2391.trans (by decide)
  refine va_sld hx hb hX hbl hbA hw.2.2 (k_in0 (by decide)) dL_law_1304 ?_
  refine lv_topi (fun x_2392 ex_2392 => ?_)
  obtain rfl : x_2392 = xs 2 := ex_2392
  refine lv_if_eq (tgt := 1312) hx hb dL_law_1305 (by decide) (fun c_2393 => ?_) (fun c_2393 => ?_)
  · refine lv_iconst (v := 0) hx hb dL_law_1312 (by decide) ?_
    refine k_V (wr := [(z, .inr (11, [.int 0, .int 0, .ref z2, .int 0, .int 0, .int 0, .int 0, .long 0, .int 0, .int 0, .ref z10, .ref z11, .ref z12, .ref z13, .ref z14, .ref z15, .ref z16, .ref z17, .ref z18, .ref z19, .int 0, .int 0, .ref z22, .ref z23, .ref z24, .ref z25, .ref z26, .ref z27, .ref z28, .ref z29, .ref z30, .ref z31, .ref z32, .ref z33, .int 0, .long 0, .ref z36, .ref z37, .ref z38, .ref z39, .ref z40, .ref z41, .ref z42, .ref z43, .ref z44, .ref z45, .ref z46, .ref z47, .ref z48, .int 0, .int 10, .int 0, .int 0, .int 0, .int 0, .ref z55, .ref z56, .int 0, .int 0, .ref z59, .ref z60, .ref z61, .int 0, .long 0])), (z48, .inl (γ.2.1 3, 4, .inl (fun _ => 0))), (z36, .inl (γ.2.1 0, 6, .inl (fun _ => 0))), (z37, .inl (γ.2.1 0, 240, .inl (fun _ => 0))), (z38, .inl (γ.2.1 0, 240, .inl (fun _ => 0))), (z39, .inl (γ.2.1 0, 240, .inl (fun _ => 0))), (z40, .inl (γ.2.1 0, 5, .inl (fun _ => 0))), (z41, .inl (γ.2.1 0, 40, .inl (fun _ => 0))), (z42, .inl (γ.2.1 3, 40, .inl (fun _ => 0))), (z43, .inl (γ.2.1 0, 133, .inl (fun _ => 0))), (z46, .inl (γ.2.1 0, 532, .inl (fun _ => 0)))]) 2 gw_847 gw_848 gw_849 gw_1 gw_850 hd_X11_mark hC hw (c_X11_mark_0_0 γ l x x0 x1 x2 x3 x4 x5 x6 x7 x8 x9 x10 fm ma mas mas_l mas_c mas_g mas_r mas_k mas_b may maq fmas_l fmas_c fmas_g fmas_r fmas_k fmas_b fmay fmaq x2s x2s_l x2s_c x2s_g x2s_r x2s_k x2s_b x2y x2q fx2s_l fx2s_c fx2s_g fx2s_r fx2s_k fx2s_b fx2y fx2q hm0) ⟨by decide, by decide⟩ ⟨by decide, by decide⟩ hl.1 rfl 0 rfl rfl rfl (Nat.le_of_ble_eq_true rfl) [0, 2, 3, 4, 5, 6, 7, 8, 9, 10, 11, 12, 13, 14, 15, 16, 17, 18, 19, 20, 21, 22] [1, 23, 24, 25, 26, 27, 28, 29, 30, 31, 32] rfl rfl rfl rfl (by decide) dL_law_1313 (fun r w1 H locs hq hw => ?_)
    obtain ⟨rfl, rfl⟩ := hq
    have hw : kW γ A [(z, .inr (11, [.int 0, .int 0, .ref z2, .int 0, .int 0, .int 0, .int 0, .long 0, .int 0, .int 0, .ref z10, .ref z11, .ref z12, .ref z13, .ref z14, .ref z15, .ref z16, .ref z17, .ref z18, .ref z19, .int 0, .int 0, .ref z22, .ref z23, .ref z24, .ref z25, .ref z26, .ref z27, .ref z28, .ref z29, .ref z30, .ref z31, .ref z32, .ref z33, .int 0, .long 0, .ref z36, .ref z37, .ref z38, .ref z39, .ref z40, .ref z41, .ref z42, .ref z43, .ref z44, .ref z45, .ref z46, .ref z47, .ref z48, .int 0, .int 10, .int 0, .int 0, .int 0, .int 0, .ref z55, .ref z56, .int 0, .int 0, .ref z59, .ref z60, .ref z61, .int 0, .long 0])), (z48, .inl (γ.2.1 3, 4, .inl (fun _ => 0))), (z36, .inl (γ.2.1 0, 6, .inl (fun _ => 0))), (z37, .inl (γ.2.1 0, 240, .inl (fun _ => 0))), (z38, .inl (γ.2.1 0, 240, .inl (fun _ => 0))), (z39, .inl (γ.2.1 0, 240, .inl (fun _ => 0))), (z40, .inl (γ.2.1 0, 5, .inl (fun _ => 0))), (z41, .inl (γ.2.1 0, 40, .inl (fun _ => 0))), (z42, .inl (γ.2.1 3, 40, .inl (fun _ => 0))), (z43, .inl (γ.2.1 0, 133, .inl (fun _ => 0))), (z46, .inl (γ.2.1 0, 532, .inl (fun _ => 0)))] s H locs := hw
    refine W.eq (g2 := F0 m 1316 ls [.int 1]) rfl ?_
    refine lv_aload_n hx hb dL_law_1316 rfl (lv_at hl 2 rfl) ?_
    refine lv_aload_n hx hb dL_law_1317 rfl (lv_at hl 4 rfl) ?_
    refine lv_iload hx hb dL_law_1318 (lv_at hl 0 rfl) ?_
    refine lv_iconst (v := 1) hx hb dL_law_1320 (by decide) ?_
    refine lv_iadd hx hb dL_law_1321 ?_
    refine lv_topi (fun x_2394 ex_2394 => ?_)
    obtain rfl : x_2394 = 1 := ex_2394.trans (by decide)
    refine va_sld hx hb hX hbl hbA hw.2.2 (k_in0 (by decide)) dL_law_1322 ?_
    refine lv_topi (fun x_2395 ex_2395 => ?_)
    obtain rfl : x_2395 = 0 := (show x_2395 = xs 1 from ex_2395).trans hv
    refine lv_aload_n hx hb dL_law_1323 rfl (lv_at hl 4 rfl) ?_
    refine lv_iload hx hb dL_law_1324 (lv_at hl 0 rfl) ?_
    refine lv_iconst (v := 2) hx hb dL_law_1326 (by decide) ?_
    refine lv_iadd hx hb dL_law_1327 ?_
    refine lv_topi (fun x_2396 ex_2396 => ?_)
    obtain rfl : x_2396 = 2 := ex_2396.trans (by decide)
    refine va_sld hx hb hX hbl hbA hw.2.2 (k_in0 (by decide)) dL_law_1328 ?_
    refine lv_topi (fun x_2397 ex_2397 => ?_)
    obtain rfl : x_2397 = xs 2 := ex_2397
    refine lv_if_eq (tgt := 1336) hx hb dL_law_1329 (by decide) (fun _ => ?_) (fun h => absurd c_2393 h)
    refine lv_iconst (v := 0) hx hb dL_law_1336 (by decide) ?_
    refine k_V (wr := []) 2 gw_1803 gw_1804 gw_1805 gw_15 gw_1806 hd_X12_mark hC hw (c_X12_mark_0_0 γ l z z2 z10 z11 z12 z13 z14 z15 z16 z17 z18 z19 z22 z23 z24 z25 z26 z27 z28 z29 z30 z31 z32 z33 z36 z37 z38 z39 z40 z41 z42 z43 z44 z45 z46 z47 z48 z55 z56 z59 z60 z61 (fun _ => 0) (fun _ => 0)) ⟨by decide, by decide⟩ ⟨by decide, by decide⟩ hl.1 rfl 0 rfl rfl rfl (Nat.le_of_ble_eq_true rfl) [0, 1, 2, 3, 4, 5, 6, 7, 8, 9, 10] [] rfl rfl rfl rfl (by decide) dL_law_1337 (fun r w1 H locs hq hw => ?_)
    obtain ⟨rfl, rfl⟩ := hq
    have hw : kW γ A [] s H locs := hw
    refine W.eq (g2 := F0 m 1340 ls [.int 1, .int 1]) rfl ?_
    refine lv_icmp_eq (tgt := 1370) hx hb dL_law_1340 (by decide) (fun _ => ?_) (fun h => absurd (by decide) h)
    exact law_end hC hr hlocks hX hbl hbA hAs hl9 _ _ (kW.sub hw [] rfl rfl) (by decide) (by decide) _ (lv_sub hl [0, 4] rfl)
  · refine lv_iconst (v := 1) hx hb dL_law_1308 (by decide) ?_
    refine lv_goto (tgt := 1313) hx hb dL_law_1309 (by decide) ?_
    refine k_V (wr := [(z, .inr (11, [.int 0, .int 0, .ref z2, .int 0, .int 0, .int 0, .int 0, .long 0, .int 0, .int 0, .ref z10, .ref z11, .ref z12, .ref z13, .ref z14, .ref z15, .ref z16, .ref z17, .ref z18, .ref z19, .int 0, .int 0, .ref z22, .ref z23, .ref z24, .ref z25, .ref z26, .ref z27, .ref z28, .ref z29, .ref z30, .ref z31, .ref z32, .ref z33, .int 0, .long 0, .ref z36, .ref z37, .ref z38, .ref z39, .ref z40, .ref z41, .ref z42, .ref z43, .ref z44, .ref z45, .ref z46, .ref z47, .ref z48, .int 0, .int 10, .int 0, .int 0, .int 0, .int 0, .ref z55, .ref z56, .int 0, .int 0, .ref z59, .ref z60, .ref z61, .int 0, .long 0])), (mas, .inr (7, [.ref mas_l, .ref mas_c, .ref mas_g, .ref mas_r, .ref mas_k, .ref mas_b, .int 0, .int 0, .int 0])), (mas_l, .inl (γ.2.1 0, 5, .inl fmas_l)), (mas_c, .inl (γ.2.1 0, 5, .inl fmas_c)), (mas_g, .inl (γ.2.1 0, 5, .inl fmas_g)), (mas_r, .inl (γ.2.1 1, 5, .inr (.inl fmas_r))), (mas_k, .inl (γ.2.1 0, 40, .inl fmas_k)), (mas_b, .inl (γ.2.1 0, 8, .inl fmas_b)), (may, .inl (γ.2.1 0, 40, .inl fmay)), (maq, .inl (γ.2.1 0, 8, .inl fmaq)), (x2, .inr (3, [.ref x2s, .ref x2y, .ref x2q, .int 0, .int 0, .int 0])), (x2s, .inr (7, [.ref x2s_l, .ref x2s_c, .ref x2s_g, .ref x2s_r, .ref x2s_k, .ref x2s_b, .int 0, .int 0, .int 0])), (x2s_l, .inl (γ.2.1 0, 5, .inl fx2s_l)), (x2s_c, .inl (γ.2.1 0, 5, .inl fx2s_c)), (x2s_g, .inl (γ.2.1 0, 5, .inl fx2s_g)), (x2s_r, .inl (γ.2.1 1, 5, .inr (.inl fx2s_r))), (x2s_k, .inl (γ.2.1 0, 40, .inl fx2s_k)), (x2s_b, .inl (γ.2.1 0, 8, .inl fx2s_b)), (x2y, .inl (γ.2.1 0, 40, .inl fx2y)), (x2q, .inl (γ.2.1 0, 8, .inl fx2q)), (z48, .inl (γ.2.1 3, 4, .inl (fun _ => 0))), (z36, .inl (γ.2.1 0, 6, .inl (fun _ => 0))), (z37, .inl (γ.2.1 0, 240, .inl (fun _ => 0))), (z38, .inl (γ.2.1 0, 240, .inl (fun _ => 0))), (z39, .inl (γ.2.1 0, 240, .inl (fun _ => 0))), (z40, .inl (γ.2.1 0, 5, .inl (fun _ => 0))), (z41, .inl (γ.2.1 0, 40, .inl (fun _ => 0))), (z42, .inl (γ.2.1 3, 40, .inl (fun _ => 0))), (z43, .inl (γ.2.1 0, 133, .inl (fun _ => 0))), (z46, .inl (γ.2.1 0, 532, .inl (fun _ => 0)))]) 2 gw_847 gw_848 gw_849 gw_1 gw_850 hd_X11_mark hC hw (c_X11_mark_0_1 γ l x x0 x1 x2 x3 x4 x5 x6 x7 x8 x9 x10 fm ma mas may maq hm0) ⟨by decide, by decide⟩ ⟨by decide, by decide⟩ hl.1 rfl 0 rfl rfl rfl (Nat.le_of_ble_eq_true rfl) [0, 2, 3] [1, 4, 5, 6, 7, 8, 9, 10, 11, 12, 13, 14, 15, 16, 17, 18, 19, 20, 21, 22, 23, 24, 25, 26, 27, 28, 29, 30, 31, 32] rfl rfl rfl rfl (by decide) dL_law_1313 (fun r w1 H locs hq hw => ?_)
    obtain ⟨rfl, rfl⟩ := hq
    have hw : kW γ A [(z, .inr (11, [.int 0, .int 0, .ref z2, .int 0, .int 0, .int 0, .int 0, .long 0, .int 0, .int 0, .ref z10, .ref z11, .ref z12, .ref z13, .ref z14, .ref z15, .ref z16, .ref z17, .ref z18, .ref z19, .int 0, .int 0, .ref z22, .ref z23, .ref z24, .ref z25, .ref z26, .ref z27, .ref z28, .ref z29, .ref z30, .ref z31, .ref z32, .ref z33, .int 0, .long 0, .ref z36, .ref z37, .ref z38, .ref z39, .ref z40, .ref z41, .ref z42, .ref z43, .ref z44, .ref z45, .ref z46, .ref z47, .ref z48, .int 0, .int 10, .int 0, .int 0, .int 0, .int 0, .ref z55, .ref z56, .int 0, .int 0, .ref z59, .ref z60, .ref z61, .int 0, .long 0])), (mas, .inr (7, [.ref mas_l, .ref mas_c, .ref mas_g, .ref mas_r, .ref mas_k, .ref mas_b, .int 0, .int 0, .int 0])), (mas_l, .inl (γ.2.1 0, 5, .inl fmas_l)), (mas_c, .inl (γ.2.1 0, 5, .inl fmas_c)), (mas_g, .inl (γ.2.1 0, 5, .inl fmas_g)), (mas_r, .inl (γ.2.1 1, 5, .inr (.inl fmas_r))), (mas_k, .inl (γ.2.1 0, 40, .inl fmas_k)), (mas_b, .inl (γ.2.1 0, 8, .inl fmas_b)), (may, .inl (γ.2.1 0, 40, .inl fmay)), (maq, .inl (γ.2.1 0, 8, .inl fmaq)), (x2, .inr (3, [.ref x2s, .ref x2y, .ref x2q, .int 0, .int 0, .int 0])), (x2s, .inr (7, [.ref x2s_l, .ref x2s_c, .ref x2s_g, .ref x2s_r, .ref x2s_k, .ref x2s_b, .int 0, .int 0, .int 0])), (x2s_l, .inl (γ.2.1 0, 5, .inl fx2s_l)), (x2s_c, .inl (γ.2.1 0, 5, .inl fx2s_c)), (x2s_g, .inl (γ.2.1 0, 5, .inl fx2s_g)), (x2s_r, .inl (γ.2.1 1, 5, .inr (.inl fx2s_r))), (x2s_k, .inl (γ.2.1 0, 40, .inl fx2s_k)), (x2s_b, .inl (γ.2.1 0, 8, .inl fx2s_b)), (x2y, .inl (γ.2.1 0, 40, .inl fx2y)), (x2q, .inl (γ.2.1 0, 8, .inl fx2q)), (z48, .inl (γ.2.1 3, 4, .inl (fun _ => 0))), (z36, .inl (γ.2.1 0, 6, .inl (fun _ => 0))), (z37, .inl (γ.2.1 0, 240, .inl (fun _ => 0))), (z38, .inl (γ.2.1 0, 240, .inl (fun _ => 0))), (z39, .inl (γ.2.1 0, 240, .inl (fun _ => 0))), (z40, .inl (γ.2.1 0, 5, .inl (fun _ => 0))), (z41, .inl (γ.2.1 0, 40, .inl (fun _ => 0))), (z42, .inl (γ.2.1 3, 40, .inl (fun _ => 0))), (z43, .inl (γ.2.1 0, 133, .inl (fun _ => 0))), (z46, .inl (γ.2.1 0, 532, .inl (fun _ => 0)))] s H locs := hw
    refine W.eq (g2 := F0 m 1316 ls [.int 0]) rfl ?_
    refine lv_aload_n hx hb dL_law_1316 rfl (lv_at hl 2 rfl) ?_
    refine lv_aload_n hx hb dL_law_1317 rfl (lv_at hl 4 rfl) ?_
    refine lv_iload hx hb dL_law_1318 (lv_at hl 0 rfl) ?_
    refine lv_iconst (v := 1) hx hb dL_law_1320 (by decide) ?_
    refine lv_iadd hx hb dL_law_1321 ?_
    refine lv_topi (fun x_2398 ex_2398 => ?_)
    obtain rfl : x_2398 = 1 := ex_2398.trans (by decide)
    refine va_sld hx hb hX hbl hbA hw.2.2 (k_in0 (by decide)) dL_law_1322 ?_
    refine lv_topi (fun x_2399 ex_2399 => ?_)
    obtain rfl : x_2399 = 0 := (show x_2399 = xs 1 from ex_2399).trans hv
    refine lv_aload_n hx hb dL_law_1323 rfl (lv_at hl 4 rfl) ?_
    refine lv_iload hx hb dL_law_1324 (lv_at hl 0 rfl) ?_
    refine lv_iconst (v := 2) hx hb dL_law_1326 (by decide) ?_
    refine lv_iadd hx hb dL_law_1327 ?_
    refine lv_topi (fun x_2400 ex_2400 => ?_)
    obtain rfl : x_2400 = 2 := ex_2400.trans (by decide)
    refine va_sld hx hb hX hbl hbA hw.2.2 (k_in0 (by decide)) dL_law_1328 ?_
    refine lv_topi (fun x_2401 ex_2401 => ?_)
    obtain rfl : x_2401 = xs 2 := ex_2401
    refine lv_if_eq (tgt := 1336) hx hb dL_law_1329 (by decide) (fun h => absurd h c_2393) (fun _ => ?_)
    refine lv_iconst (v := 1) hx hb dL_law_1332 (by decide) ?_
    refine lv_goto (tgt := 1337) hx hb dL_law_1333 (by decide) ?_
    refine k_V (wr := [(mas, .inr (7, [.ref mas_l, .ref mas_c, .ref mas_g, .ref mas_r, .ref mas_k, .ref mas_b, .int 0, .int 0, .int 0])), (mas_l, .inl (γ.2.1 0, 5, .inl fmas_l)), (mas_c, .inl (γ.2.1 0, 5, .inl fmas_c)), (mas_g, .inl (γ.2.1 0, 5, .inl fmas_g)), (mas_r, .inl (γ.2.1 1, 5, .inr (.inl fmas_r))), (mas_k, .inl (γ.2.1 0, 40, .inl fmas_k)), (mas_b, .inl (γ.2.1 0, 8, .inl fmas_b)), (may, .inl (γ.2.1 0, 40, .inl fmay)), (maq, .inl (γ.2.1 0, 8, .inl fmaq)), (x2, .inr (3, [.ref x2s, .ref x2y, .ref x2q, .int 0, .int 0, .int 0])), (x2s, .inr (7, [.ref x2s_l, .ref x2s_c, .ref x2s_g, .ref x2s_r, .ref x2s_k, .ref x2s_b, .int 0, .int 0, .int 0])), (x2s_l, .inl (γ.2.1 0, 5, .inl fx2s_l)), (x2s_c, .inl (γ.2.1 0, 5, .inl fx2s_c)), (x2s_g, .inl (γ.2.1 0, 5, .inl fx2s_g)), (x2s_r, .inl (γ.2.1 1, 5, .inr (.inl fx2s_r))), (x2s_k, .inl (γ.2.1 0, 40, .inl fx2s_k)), (x2s_b, .inl (γ.2.1 0, 8, .inl fx2s_b)), (x2y, .inl (γ.2.1 0, 40, .inl fx2y)), (x2q, .inl (γ.2.1 0, 8, .inl fx2q)), (z36, .inl (γ.2.1 0, 6, .inl (fun _ => 0))), (z37, .inl (γ.2.1 0, 240, .inl (fun _ => 0))), (z38, .inl (γ.2.1 0, 240, .inl (fun _ => 0))), (z39, .inl (γ.2.1 0, 240, .inl (fun _ => 0))), (z40, .inl (γ.2.1 0, 5, .inl (fun _ => 0))), (z41, .inl (γ.2.1 0, 40, .inl (fun _ => 0))), (z42, .inl (γ.2.1 3, 40, .inl (fun _ => 0))), (z43, .inl (γ.2.1 0, 133, .inl (fun _ => 0))), (z46, .inl (γ.2.1 0, 532, .inl (fun _ => 0)))]) 2 gw_1803 gw_1804 gw_1805 gw_15 gw_1806 hd_X12_mark hC hw (c_X12_mark_0_1 γ l z z2 z10 z11 z12 z13 z14 z15 z16 z17 z18 z19 z22 z23 z24 z25 z26 z27 z28 z29 z30 z31 z32 z33 z36 z37 z38 z39 z40 z41 z42 z43 z44 z45 z46 z47 z48 z55 z56 z59 z60 z61) ⟨by decide, by decide⟩ ⟨by decide, by decide⟩ hl.1 rfl 0 rfl rfl rfl (Nat.le_of_ble_eq_true rfl) [0, 20] [1, 2, 3, 4, 5, 6, 7, 8, 9, 10, 11, 12, 13, 14, 15, 16, 17, 18, 19, 21, 22, 23, 24, 25, 26, 27, 28, 29] rfl rfl rfl rfl (by decide) dL_law_1337 (fun r w1 H locs hq hw => ?_)
    obtain ⟨rfl, rfl⟩ := hq
    have hw : kW γ A [(mas, .inr (7, [.ref mas_l, .ref mas_c, .ref mas_g, .ref mas_r, .ref mas_k, .ref mas_b, .int 0, .int 0, .int 0])), (mas_l, .inl (γ.2.1 0, 5, .inl fmas_l)), (mas_c, .inl (γ.2.1 0, 5, .inl fmas_c)), (mas_g, .inl (γ.2.1 0, 5, .inl fmas_g)), (mas_r, .inl (γ.2.1 1, 5, .inr (.inl fmas_r))), (mas_k, .inl (γ.2.1 0, 40, .inl fmas_k)), (mas_b, .inl (γ.2.1 0, 8, .inl fmas_b)), (may, .inl (γ.2.1 0, 40, .inl fmay)), (maq, .inl (γ.2.1 0, 8, .inl fmaq)), (x2, .inr (3, [.ref x2s, .ref x2y, .ref x2q, .int 0, .int 0, .int 0])), (x2s, .inr (7, [.ref x2s_l, .ref x2s_c, .ref x2s_g, .ref x2s_r, .ref x2s_k, .ref x2s_b, .int 0, .int 0, .int 0])), (x2s_l, .inl (γ.2.1 0, 5, .inl fx2s_l)), (x2s_c, .inl (γ.2.1 0, 5, .inl fx2s_c)), (x2s_g, .inl (γ.2.1 0, 5, .inl fx2s_g)), (x2s_r, .inl (γ.2.1 1, 5, .inr (.inl fx2s_r))), (x2s_k, .inl (γ.2.1 0, 40, .inl fx2s_k)), (x2s_b, .inl (γ.2.1 0, 8, .inl fx2s_b)), (x2y, .inl (γ.2.1 0, 40, .inl fx2y)), (x2q, .inl (γ.2.1 0, 8, .inl fx2q)), (z36, .inl (γ.2.1 0, 6, .inl (fun _ => 0))), (z37, .inl (γ.2.1 0, 240, .inl (fun _ => 0))), (z38, .inl (γ.2.1 0, 240, .inl (fun _ => 0))), (z39, .inl (γ.2.1 0, 240, .inl (fun _ => 0))), (z40, .inl (γ.2.1 0, 5, .inl (fun _ => 0))), (z41, .inl (γ.2.1 0, 40, .inl (fun _ => 0))), (z42, .inl (γ.2.1 3, 40, .inl (fun _ => 0))), (z43, .inl (γ.2.1 0, 133, .inl (fun _ => 0))), (z46, .inl (γ.2.1 0, 532, .inl (fun _ => 0)))] s H locs := hw
    refine W.eq (g2 := F0 m 1340 ls [.int 0, .int 0]) rfl ?_
    refine lv_icmp_eq (tgt := 1370) hx hb dL_law_1340 (by decide) (fun _ => ?_) (fun h => absurd (by decide) h)
    exact law_end hC hr hlocks hX hbl hbA hAs hl9 _ _ (kW.sub hw [] rfl rfl) (by decide) (by decide) _ (lv_sub hl [0, 4] rfl)

set_option maxHeartbeats 4000000 in
set_option maxRecDepth 100000 in
theorem lc_30_1 {γ : kΓ} {l : Launch} {p : Program} {e : Env} {s : State} {m : MethodId} {below : List Frame} {meth : Method} {c : Code} {A : Nat → Prop} {b : Nat} {xs : Nat → Int32} (hC : kC γ p s m [Value.ref b].toArray c code 7 RL A) (hr : meth.sig.returnType = ret) (hlocks : meth.locks = false) (hX : va_X b 7 xs s s.heap) (hbl : b < s.heap.size) (hbA : ¬ A b) (hAs : ∀ q, A q → s.heap.size ≤ q) (hl9 : l.stackTraces = false) (x : Nat) (x0 : Nat) (x1 : Nat) (x2 : Nat) (x3 : Nat) (x4 : Nat) (x5 : Nat) (x6 : Nat) (x7 : Nat) (x8 : Nat) (x9 : Nat) (x10 : Nat) (z : Nat) (z2 : Nat) (z10 : Nat) (z11 : Nat) (z12 : Nat) (z13 : Nat) (z14 : Nat) (z15 : Nat) (z16 : Nat) (z17 : Nat) (z18 : Nat) (z19 : Nat) (z22 : Nat) (z23 : Nat) (z24 : Nat) (z25 : Nat) (z26 : Nat) (z27 : Nat) (z28 : Nat) (z29 : Nat) (z30 : Nat) (z31 : Nat) (z32 : Nat) (z33 : Nat) (z36 : Nat) (z37 : Nat) (z38 : Nat) (z39 : Nat) (z40 : Nat) (z41 : Nat) (z42 : Nat) (z43 : Nat) (z44 : Nat) (z45 : Nat) (z46 : Nat) (z47 : Nat) (z48 : Nat) (z55 : Nat) (z56 : Nat) (z59 : Nat) (z60 : Nat) (z61 : Nat) (fm : Nat → Option Nat) (mb : Nat) (mbs : Nat) (mby : Nat) (mbq : Nat) (mbs_l : Nat) (mbs_c : Nat) (mbs_g : Nat) (mbs_r : Nat) (mbs_k : Nat) (mbs_b : Nat) (fmbs_l : Nat → Int32) (fmbs_c : Nat → Int32) (fmbs_g : Nat → Int32) (fmbs_r : Nat → Int64) (fmbs_k : Nat → Int32) (fmbs_b : Nat → Int32) (fmby : Nat → Int32) (fmbq : Nat → Int32) (x2s : Nat) (x2y : Nat) (x2q : Nat) (x2s_l : Nat) (x2s_c : Nat) (x2s_g : Nat) (x2s_r : Nat) (x2s_k : Nat) (x2s_b : Nat) (fx2s_l : Nat → Int32) (fx2s_c : Nat → Int32) (fx2s_g : Nat → Int32) (fx2s_r : Nat → Int64) (fx2s_k : Nat → Int32) (fx2s_b : Nat → Int32) (fx2y : Nat → Int32) (fx2q : Nat → Int32) (ou : Nat) (hm1 : fm 1 = some mb) (hz : ∀ j, j < 5 → fx2s_g j = 0) (hv : xs 1 = 1) (H : Heap) (locs : List Loc) (hw : kW γ A [(x, .inr (10, [.ref x0, .ref x1, .ref x2, .ref x3, .ref x4, .ref x5, .ref x6, .ref x7, .ref x8, .ref x9, .ref x10])), (z, .inr (11, [.int 0, .int 0, .ref z2, .int 0, .int 0, .int 0, .int 0, .long 0, .int 0, .int 0, .ref z10, .ref z11, .ref z12, .ref z13, .ref z14, .ref z15, .ref z16, .ref z17, .ref z18, .ref z19, .int 0, .int 0, .ref z22, .ref z23, .ref z24, .ref z25, .ref z26, .ref z27, .ref z28, .ref z29, .ref z30, .ref z31, .ref z32, .ref z33, .int 0, .long 0, .ref z36, .ref z37, .ref z38, .ref z39, .ref z40, .ref z41, .ref z42, .ref z43, .ref z44, .ref z45, .ref z46, .ref z47, .ref z48, .int 0, .int 10, .int 0, .int 0, .int 0, .int 0, .ref z55, .ref z56, .int 0, .int 0, .ref z59, .ref z60, .ref z61, .int 0, .long 0])), (x3, .inl (γ.2.1 4, 4, .inr (.inr (.inr (.inr fm))))), (mb, .inr (3, [.ref mbs, .ref mby, .ref mbq, .int 0, .int 0, .int 0])), (mbs, .inr (7, [.ref mbs_l, .ref mbs_c, .ref mbs_g, .ref mbs_r, .ref mbs_k, .ref mbs_b, .int 0, .int 0, .int 0])), (mbs_l, .inl (γ.2.1 0, 5, .inl fmbs_l)), (mbs_c, .inl (γ.2.1 0, 5, .inl fmbs_c)), (mbs_g, .inl (γ.2.1 0, 5, .inl fmbs_g)), (mbs_r, .inl (γ.2.1 1, 5, .inr (.inl fmbs_r))), (mbs_k, .inl (γ.2.1 0, 40, .inl fmbs_k)), (mbs_b, .inl (γ.2.1 0, 8, .inl fmbs_b)), (mby, .inl (γ.2.1 0, 40, .inl fmby)), (mbq, .inl (γ.2.1 0, 8, .inl fmbq)), (x2, .inr (3, [.ref x2s, .ref x2y, .ref x2q, .int 0, .int 0, .int 0])), (x2s, .inr (7, [.ref x2s_l, .ref x2s_c, .ref x2s_g, .ref x2s_r, .ref x2s_k, .ref x2s_b, .int 0, .int 0, .int 0])), (x2s_l, .inl (γ.2.1 0, 5, .inl fx2s_l)), (x2s_c, .inl (γ.2.1 0, 5, .inl fx2s_c)), (x2s_g, .inl (γ.2.1 0, 5, .inl fx2s_g)), (x2s_r, .inl (γ.2.1 1, 5, .inr (.inl fx2s_r))), (x2s_k, .inl (γ.2.1 0, 40, .inl fx2s_k)), (x2s_b, .inl (γ.2.1 0, 8, .inl fx2s_b)), (x2y, .inl (γ.2.1 0, 40, .inl fx2y)), (x2q, .inl (γ.2.1 0, 8, .inl fx2q)), (z48, .inl (γ.2.1 3, 4, .inl (fun _ => 0))), (z36, .inl (γ.2.1 0, 6, .inl (fun _ => 0))), (z37, .inl (γ.2.1 0, 240, .inl (fun _ => 0))), (z38, .inl (γ.2.1 0, 240, .inl (fun _ => 0))), (z39, .inl (γ.2.1 0, 240, .inl (fun _ => 0))), (z40, .inl (γ.2.1 0, 5, .inl (fun _ => 0))), (z41, .inl (γ.2.1 0, 40, .inl (fun _ => 0))), (z42, .inl (γ.2.1 3, 40, .inl (fun _ => 0))), (z43, .inl (γ.2.1 0, 133, .inl (fun _ => 0))), (z46, .inl (γ.2.1 0, 532, .inl (fun _ => 0)))] s H locs) (ls : Array Slot) (hl : lv_has ls 7 [(4, .int 0), (3, .ref ou), (2, .ref z), (1, .ref x), (0, .ref b)]) : W p l e room_1 s m [Value.ref b].toArray below meth c H locs 251 13922 (lw_Z below #[Value.ref b] s) (F0 m 1292 ls []) := by
  have hx := hC.1
  have hb := hC.2.1
  refine lv_aload_n hx hb dL_law_1292 rfl (lv_at hl 3 rfl) ?_
  refine lv_aload_n hx hb dL_law_1293 rfl (lv_at hl 4 rfl) ?_
  refine lv_iload hx hb dL_law_1294 (lv_at hl 0 rfl) ?_
  refine lv_iconst (v := 1) hx hb dL_law_1296 (by decide) ?_
  refine lv_iadd hx hb dL_law_1297 ?_
  refine lv_topi (fun x_2402 ex_2402 => ?_)
  obtain rfl : x_2402 = 1 := ex_2402.trans (by decide)
  refine va_sld hx hb hX hbl hbA hw.2.2 (k_in0 (by decide)) dL_law_1298 ?_
  refine lv_topi (fun x_2403 ex_2403 => ?_)
  obtain rfl : x_2403 = 1 := (show x_2403 = xs 1 from ex_2403).trans hv
  refine lv_aload_n hx hb dL_law_1299 rfl (lv_at hl 4 rfl) ?_
  refine lv_iload hx hb dL_law_1300 (lv_at hl 0 rfl) ?_
  refine lv_iconst (v := 2) hx hb dL_law_1302 (by decide) ?_
  refine lv_iadd hx hb dL_law_1303 ?_
  refine lv_topi (fun x_2404 ex_2404 => ?_)
  obtain rfl : x_2404 = 2 := ex_2404.trans (by decide)
  refine va_sld hx hb hX hbl hbA hw.2.2 (k_in0 (by decide)) dL_law_1304 ?_
  refine lv_topi (fun x_2405 ex_2405 => ?_)
  obtain rfl : x_2405 = xs 2 := ex_2405
  refine lv_if_eq (tgt := 1312) hx hb dL_law_1305 (by decide) (fun c_2406 => ?_) (fun c_2406 => ?_)
  · refine lv_iconst (v := 0) hx hb dL_law_1312 (by decide) ?_
    refine k_V (wr := [(z, .inr (11, [.int 0, .int 0, .ref z2, .int 0, .int 0, .int 0, .int 0, .long 0, .int 0, .int 0, .ref z10, .ref z11, .ref z12, .ref z13, .ref z14, .ref z15, .ref z16, .ref z17, .ref z18, .ref z19, .int 0, .int 0, .ref z22, .ref z23, .ref z24, .ref z25, .ref z26, .ref z27, .ref z28, .ref z29, .ref z30, .ref z31, .ref z32, .ref z33, .int 0, .long 0, .ref z36, .ref z37, .ref z38, .ref z39, .ref z40, .ref z41, .ref z42, .ref z43, .ref z44, .ref z45, .ref z46, .ref z47, .ref z48, .int 0, .int 10, .int 0, .int 0, .int 0, .int 0, .ref z55, .ref z56, .int 0, .int 0, .ref z59, .ref z60, .ref z61, .int 0, .long 0])), (z48, .inl (γ.2.1 3, 4, .inl (fun _ => 0))), (z36, .inl (γ.2.1 0, 6, .inl (fun _ => 0))), (z37, .inl (γ.2.1 0, 240, .inl (fun _ => 0))), (z38, .inl (γ.2.1 0, 240, .inl (fun _ => 0))), (z39, .inl (γ.2.1 0, 240, .inl (fun _ => 0))), (z40, .inl (γ.2.1 0, 5, .inl (fun _ => 0))), (z41, .inl (γ.2.1 0, 40, .inl (fun _ => 0))), (z42, .inl (γ.2.1 3, 40, .inl (fun _ => 0))), (z43, .inl (γ.2.1 0, 133, .inl (fun _ => 0))), (z46, .inl (γ.2.1 0, 532, .inl (fun _ => 0)))]) 2 gw_847 gw_848 gw_849 gw_1 gw_850 hd_X11_mark hC hw (c_X11_mark_1_0 γ l x x0 x1 x2 x3 x4 x5 x6 x7 x8 x9 x10 fm mb mbs mbs_l mbs_c mbs_g mbs_r mbs_k mbs_b mby mbq fmbs_l fmbs_c fmbs_g fmbs_r fmbs_k fmbs_b fmby fmbq x2s x2s_l x2s_c x2s_g x2s_r x2s_k x2s_b x2y x2q fx2s_l fx2s_c fx2s_g fx2s_r fx2s_k fx2s_b fx2y fx2q hm1) ⟨by decide, by decide⟩ ⟨by decide, by decide⟩ hl.1 rfl 0 rfl rfl rfl (Nat.le_of_ble_eq_true rfl) [0, 2, 3, 4, 5, 6, 7, 8, 9, 10, 11, 12, 13, 14, 15, 16, 17, 18, 19, 20, 21, 22] [1, 23, 24, 25, 26, 27, 28, 29, 30, 31, 32] rfl rfl rfl rfl (by decide) dL_law_1313 (fun r w1 H locs hq hw => ?_)
    obtain ⟨rfl, rfl⟩ := hq
    have hw : kW γ A [(z, .inr (11, [.int 0, .int 0, .ref z2, .int 0, .int 0, .int 0, .int 0, .long 0, .int 0, .int 0, .ref z10, .ref z11, .ref z12, .ref z13, .ref z14, .ref z15, .ref z16, .ref z17, .ref z18, .ref z19, .int 0, .int 0, .ref z22, .ref z23, .ref z24, .ref z25, .ref z26, .ref z27, .ref z28, .ref z29, .ref z30, .ref z31, .ref z32, .ref z33, .int 0, .long 0, .ref z36, .ref z37, .ref z38, .ref z39, .ref z40, .ref z41, .ref z42, .ref z43, .ref z44, .ref z45, .ref z46, .ref z47, .ref z48, .int 0, .int 10, .int 0, .int 0, .int 0, .int 0, .ref z55, .ref z56, .int 0, .int 0, .ref z59, .ref z60, .ref z61, .int 0, .long 0])), (z48, .inl (γ.2.1 3, 4, .inl (fun _ => 0))), (z36, .inl (γ.2.1 0, 6, .inl (fun _ => 0))), (z37, .inl (γ.2.1 0, 240, .inl (fun _ => 0))), (z38, .inl (γ.2.1 0, 240, .inl (fun _ => 0))), (z39, .inl (γ.2.1 0, 240, .inl (fun _ => 0))), (z40, .inl (γ.2.1 0, 5, .inl (fun _ => 0))), (z41, .inl (γ.2.1 0, 40, .inl (fun _ => 0))), (z42, .inl (γ.2.1 3, 40, .inl (fun _ => 0))), (z43, .inl (γ.2.1 0, 133, .inl (fun _ => 0))), (z46, .inl (γ.2.1 0, 532, .inl (fun _ => 0)))] s H locs := hw
    refine W.eq (g2 := F0 m 1316 ls [.int 1]) rfl ?_
    refine lv_aload_n hx hb dL_law_1316 rfl (lv_at hl 2 rfl) ?_
    refine lv_aload_n hx hb dL_law_1317 rfl (lv_at hl 4 rfl) ?_
    refine lv_iload hx hb dL_law_1318 (lv_at hl 0 rfl) ?_
    refine lv_iconst (v := 1) hx hb dL_law_1320 (by decide) ?_
    refine lv_iadd hx hb dL_law_1321 ?_
    refine lv_topi (fun x_2407 ex_2407 => ?_)
    obtain rfl : x_2407 = 1 := ex_2407.trans (by decide)
    refine va_sld hx hb hX hbl hbA hw.2.2 (k_in0 (by decide)) dL_law_1322 ?_
    refine lv_topi (fun x_2408 ex_2408 => ?_)
    obtain rfl : x_2408 = 1 := (show x_2408 = xs 1 from ex_2408).trans hv
    refine lv_aload_n hx hb dL_law_1323 rfl (lv_at hl 4 rfl) ?_
    refine lv_iload hx hb dL_law_1324 (lv_at hl 0 rfl) ?_
    refine lv_iconst (v := 2) hx hb dL_law_1326 (by decide) ?_
    refine lv_iadd hx hb dL_law_1327 ?_
    refine lv_topi (fun x_2409 ex_2409 => ?_)
    obtain rfl : x_2409 = 2 := ex_2409.trans (by decide)
    refine va_sld hx hb hX hbl hbA hw.2.2 (k_in0 (by decide)) dL_law_1328 ?_
    refine lv_topi (fun x_2410 ex_2410 => ?_)
    obtain rfl : x_2410 = xs 2 := ex_2410
    refine lv_if_eq (tgt := 1336) hx hb dL_law_1329 (by decide) (fun _ => ?_) (fun h => absurd c_2406 h)
    refine lv_iconst (v := 0) hx hb dL_law_1336 (by decide) ?_
    refine k_V (wr := []) 2 gw_1803 gw_1804 gw_1805 gw_15 gw_1806 hd_X12_mark hC hw (c_X12_mark_1_0 γ l z z2 z10 z11 z12 z13 z14 z15 z16 z17 z18 z19 z22 z23 z24 z25 z26 z27 z28 z29 z30 z31 z32 z33 z36 z37 z38 z39 z40 z41 z42 z43 z44 z45 z46 z47 z48 z55 z56 z59 z60 z61 (fun _ => 0) (fun _ => 0)) ⟨by decide, by decide⟩ ⟨by decide, by decide⟩ hl.1 rfl 0 rfl rfl rfl (Nat.le_of_ble_eq_true rfl) [0, 1, 2, 3, 4, 5, 6, 7, 8, 9, 10] [] rfl rfl rfl rfl (by decide) dL_law_1337 (fun r w1 H locs hq hw => ?_)
    obtain ⟨rfl, rfl⟩ := hq
    have hw : kW γ A [] s H locs := hw
    refine W.eq (g2 := F0 m 1340 ls [.int 1, .int 1]) rfl ?_
    refine lv_icmp_eq (tgt := 1370) hx hb dL_law_1340 (by decide) (fun _ => ?_) (fun h => absurd (by decide) h)
    exact law_end hC hr hlocks hX hbl hbA hAs hl9 _ _ (kW.sub hw [] rfl rfl) (by decide) (by decide) _ (lv_sub hl [0, 4] rfl)
  · refine lv_iconst (v := 1) hx hb dL_law_1308 (by decide) ?_
    refine lv_goto (tgt := 1313) hx hb dL_law_1309 (by decide) ?_
    refine k_V (wr := [(z, .inr (11, [.int 0, .int 0, .ref z2, .int 0, .int 0, .int 0, .int 0, .long 0, .int 0, .int 0, .ref z10, .ref z11, .ref z12, .ref z13, .ref z14, .ref z15, .ref z16, .ref z17, .ref z18, .ref z19, .int 0, .int 0, .ref z22, .ref z23, .ref z24, .ref z25, .ref z26, .ref z27, .ref z28, .ref z29, .ref z30, .ref z31, .ref z32, .ref z33, .int 0, .long 0, .ref z36, .ref z37, .ref z38, .ref z39, .ref z40, .ref z41, .ref z42, .ref z43, .ref z44, .ref z45, .ref z46, .ref z47, .ref z48, .int 0, .int 10, .int 0, .int 0, .int 0, .int 0, .ref z55, .ref z56, .int 0, .int 0, .ref z59, .ref z60, .ref z61, .int 0, .long 0])), (mbs, .inr (7, [.ref mbs_l, .ref mbs_c, .ref mbs_g, .ref mbs_r, .ref mbs_k, .ref mbs_b, .int 0, .int 0, .int 0])), (mbs_l, .inl (γ.2.1 0, 5, .inl fmbs_l)), (mbs_c, .inl (γ.2.1 0, 5, .inl fmbs_c)), (mbs_g, .inl (γ.2.1 0, 5, .inl fmbs_g)), (mbs_r, .inl (γ.2.1 1, 5, .inr (.inl fmbs_r))), (mbs_k, .inl (γ.2.1 0, 40, .inl fmbs_k)), (mbs_b, .inl (γ.2.1 0, 8, .inl fmbs_b)), (mby, .inl (γ.2.1 0, 40, .inl fmby)), (mbq, .inl (γ.2.1 0, 8, .inl fmbq)), (x2, .inr (3, [.ref x2s, .ref x2y, .ref x2q, .int 0, .int 0, .int 0])), (x2s, .inr (7, [.ref x2s_l, .ref x2s_c, .ref x2s_g, .ref x2s_r, .ref x2s_k, .ref x2s_b, .int 0, .int 0, .int 0])), (x2s_l, .inl (γ.2.1 0, 5, .inl fx2s_l)), (x2s_c, .inl (γ.2.1 0, 5, .inl fx2s_c)), (x2s_g, .inl (γ.2.1 0, 5, .inl fx2s_g)), (x2s_r, .inl (γ.2.1 1, 5, .inr (.inl fx2s_r))), (x2s_k, .inl (γ.2.1 0, 40, .inl fx2s_k)), (x2s_b, .inl (γ.2.1 0, 8, .inl fx2s_b)), (x2y, .inl (γ.2.1 0, 40, .inl fx2y)), (x2q, .inl (γ.2.1 0, 8, .inl fx2q)), (z48, .inl (γ.2.1 3, 4, .inl (fun _ => 0))), (z36, .inl (γ.2.1 0, 6, .inl (fun _ => 0))), (z37, .inl (γ.2.1 0, 240, .inl (fun _ => 0))), (z38, .inl (γ.2.1 0, 240, .inl (fun _ => 0))), (z39, .inl (γ.2.1 0, 240, .inl (fun _ => 0))), (z40, .inl (γ.2.1 0, 5, .inl (fun _ => 0))), (z41, .inl (γ.2.1 0, 40, .inl (fun _ => 0))), (z42, .inl (γ.2.1 3, 40, .inl (fun _ => 0))), (z43, .inl (γ.2.1 0, 133, .inl (fun _ => 0))), (z46, .inl (γ.2.1 0, 532, .inl (fun _ => 0)))]) 2 gw_847 gw_848 gw_849 gw_1 gw_850 hd_X11_mark hC hw (c_X11_mark_1_1 γ l x x0 x1 x2 x3 x4 x5 x6 x7 x8 x9 x10 fm mb mbs mby mbq hm1) ⟨by decide, by decide⟩ ⟨by decide, by decide⟩ hl.1 rfl 0 rfl rfl rfl (Nat.le_of_ble_eq_true rfl) [0, 2, 3] [1, 4, 5, 6, 7, 8, 9, 10, 11, 12, 13, 14, 15, 16, 17, 18, 19, 20, 21, 22, 23, 24, 25, 26, 27, 28, 29, 30, 31, 32] rfl rfl rfl rfl (by decide) dL_law_1313 (fun r w1 H locs hq hw => ?_)
    obtain ⟨rfl, rfl⟩ := hq
    have hw : kW γ A [(z, .inr (11, [.int 0, .int 0, .ref z2, .int 0, .int 0, .int 0, .int 0, .long 0, .int 0, .int 0, .ref z10, .ref z11, .ref z12, .ref z13, .ref z14, .ref z15, .ref z16, .ref z17, .ref z18, .ref z19, .int 0, .int 0, .ref z22, .ref z23, .ref z24, .ref z25, .ref z26, .ref z27, .ref z28, .ref z29, .ref z30, .ref z31, .ref z32, .ref z33, .int 0, .long 0, .ref z36, .ref z37, .ref z38, .ref z39, .ref z40, .ref z41, .ref z42, .ref z43, .ref z44, .ref z45, .ref z46, .ref z47, .ref z48, .int 0, .int 10, .int 0, .int 0, .int 0, .int 0, .ref z55, .ref z56, .int 0, .int 0, .ref z59, .ref z60, .ref z61, .int 0, .long 0])), (mbs, .inr (7, [.ref mbs_l, .ref mbs_c, .ref mbs_g, .ref mbs_r, .ref mbs_k, .ref mbs_b, .int 0, .int 0, .int 0])), (mbs_l, .inl (γ.2.1 0, 5, .inl fmbs_l)), (mbs_c, .inl (γ.2.1 0, 5, .inl fmbs_c)), (mbs_g, .inl (γ.2.1 0, 5, .inl fmbs_g)), (mbs_r, .inl (γ.2.1 1, 5, .inr (.inl fmbs_r))), (mbs_k, .inl (γ.2.1 0, 40, .inl fmbs_k)), (mbs_b, .inl (γ.2.1 0, 8, .inl fmbs_b)), (mby, .inl (γ.2.1 0, 40, .inl fmby)), (mbq, .inl (γ.2.1 0, 8, .inl fmbq)), (x2, .inr (3, [.ref x2s, .ref x2y, .ref x2q, .int 0, .int 0, .int 0])), (x2s, .inr (7, [.ref x2s_l, .ref x2s_c, .ref x2s_g, .ref x2s_r, .ref x2s_k, .ref x2s_b, .int 0, .int 0, .int 0])), (x2s_l, .inl (γ.2.1 0, 5, .inl fx2s_l)), (x2s_c, .inl (γ.2.1 0, 5, .inl fx2s_c)), (x2s_g, .inl (γ.2.1 0, 5, .inl fx2s_g)), (x2s_r, .inl (γ.2.1 1, 5, .inr (.inl fx2s_r))), (x2s_k, .inl (γ.2.1 0, 40, .inl fx2s_k)), (x2s_b, .inl (γ.2.1 0, 8, .inl fx2s_b)), (x2y, .inl (γ.2.1 0, 40, .inl fx2y)), (x2q, .inl (γ.2.1 0, 8, .inl fx2q)), (z48, .inl (γ.2.1 3, 4, .inl (fun _ => 0))), (z36, .inl (γ.2.1 0, 6, .inl (fun _ => 0))), (z37, .inl (γ.2.1 0, 240, .inl (fun _ => 0))), (z38, .inl (γ.2.1 0, 240, .inl (fun _ => 0))), (z39, .inl (γ.2.1 0, 240, .inl (fun _ => 0))), (z40, .inl (γ.2.1 0, 5, .inl (fun _ => 0))), (z41, .inl (γ.2.1 0, 40, .inl (fun _ => 0))), (z42, .inl (γ.2.1 3, 40, .inl (fun _ => 0))), (z43, .inl (γ.2.1 0, 133, .inl (fun _ => 0))), (z46, .inl (γ.2.1 0, 532, .inl (fun _ => 0)))] s H locs := hw
    refine W.eq (g2 := F0 m 1316 ls [.int 0]) rfl ?_
    refine lv_aload_n hx hb dL_law_1316 rfl (lv_at hl 2 rfl) ?_
    refine lv_aload_n hx hb dL_law_1317 rfl (lv_at hl 4 rfl) ?_
    refine lv_iload hx hb dL_law_1318 (lv_at hl 0 rfl) ?_
    refine lv_iconst (v := 1) hx hb dL_law_1320 (by decide) ?_
    refine lv_iadd hx hb dL_law_1321 ?_
    refine lv_topi (fun x_2411 ex_2411 => ?_)
    obtain rfl : x_2411 = 1 := ex_2411.trans (by decide)
    refine va_sld hx hb hX hbl hbA hw.2.2 (k_in0 (by decide)) dL_law_1322 ?_
    refine lv_topi (fun x_2412 ex_2412 => ?_)
    obtain rfl : x_2412 = 1 := (show x_2412 = xs 1 from ex_2412).trans hv
    refine lv_aload_n hx hb dL_law_1323 rfl (lv_at hl 4 rfl) ?_
    refine lv_iload hx hb dL_law_1324 (lv_at hl 0 rfl) ?_
    refine lv_iconst (v := 2) hx hb dL_law_1326 (by decide) ?_
    refine lv_iadd hx hb dL_law_1327 ?_
    refine lv_topi (fun x_2413 ex_2413 => ?_)
    obtain rfl : x_2413 = 2 := ex_2413.trans (by decide)
    refine va_sld hx hb hX hbl hbA hw.2.2 (k_in0 (by decide)) dL_law_1328 ?_
    refine lv_topi (fun x_2414 ex_2414 => ?_)
    obtain rfl : x_2414 = xs 2 := ex_2414
    refine lv_if_eq (tgt := 1336) hx hb dL_law_1329 (by decide) (fun h => absurd h c_2406) (fun _ => ?_)
    refine lv_iconst (v := 1) hx hb dL_law_1332 (by decide) ?_
    refine lv_goto (tgt := 1337) hx hb dL_law_1333 (by decide) ?_
    refine k_V (wr := [(mbs, .inr (7, [.ref mbs_l, .ref mbs_c, .ref mbs_g, .ref mbs_r, .ref mbs_k, .ref mbs_b, .int 0, .int 0, .int 0])), (mbs_l, .inl (γ.2.1 0, 5, .inl fmbs_l)), (mbs_c, .inl (γ.2.1 0, 5, .inl fmbs_c)), (mbs_g, .inl (γ.2.1 0, 5, .inl fmbs_g)), (mbs_r, .inl (γ.2.1 1, 5, .inr (.inl fmbs_r))), (mbs_k, .inl (γ.2.1 0, 40, .inl fmbs_k)), (mbs_b, .inl (γ.2.1 0, 8, .inl fmbs_b)), (mby, .inl (γ.2.1 0, 40, .inl fmby)), (mbq, .inl (γ.2.1 0, 8, .inl fmbq)), (x2, .inr (3, [.ref x2s, .ref x2y, .ref x2q, .int 0, .int 0, .int 0])), (x2s, .inr (7, [.ref x2s_l, .ref x2s_c, .ref x2s_g, .ref x2s_r, .ref x2s_k, .ref x2s_b, .int 0, .int 0, .int 0])), (x2s_l, .inl (γ.2.1 0, 5, .inl fx2s_l)), (x2s_c, .inl (γ.2.1 0, 5, .inl fx2s_c)), (x2s_g, .inl (γ.2.1 0, 5, .inl fx2s_g)), (x2s_r, .inl (γ.2.1 1, 5, .inr (.inl fx2s_r))), (x2s_k, .inl (γ.2.1 0, 40, .inl fx2s_k)), (x2s_b, .inl (γ.2.1 0, 8, .inl fx2s_b)), (x2y, .inl (γ.2.1 0, 40, .inl fx2y)), (x2q, .inl (γ.2.1 0, 8, .inl fx2q)), (z36, .inl (γ.2.1 0, 6, .inl (fun _ => 0))), (z37, .inl (γ.2.1 0, 240, .inl (fun _ => 0))), (z38, .inl (γ.2.1 0, 240, .inl (fun _ => 0))), (z39, .inl (γ.2.1 0, 240, .inl (fun _ => 0))), (z40, .inl (γ.2.1 0, 5, .inl (fun _ => 0))), (z41, .inl (γ.2.1 0, 40, .inl (fun _ => 0))), (z42, .inl (γ.2.1 3, 40, .inl (fun _ => 0))), (z43, .inl (γ.2.1 0, 133, .inl (fun _ => 0))), (z46, .inl (γ.2.1 0, 532, .inl (fun _ => 0)))]) 2 gw_1803 gw_1804 gw_1805 gw_15 gw_1806 hd_X12_mark hC hw (c_X12_mark_1_1 γ l z z2 z10 z11 z12 z13 z14 z15 z16 z17 z18 z19 z22 z23 z24 z25 z26 z27 z28 z29 z30 z31 z32 z33 z36 z37 z38 z39 z40 z41 z42 z43 z44 z45 z46 z47 z48 z55 z56 z59 z60 z61) ⟨by decide, by decide⟩ ⟨by decide, by decide⟩ hl.1 rfl 0 rfl rfl rfl (Nat.le_of_ble_eq_true rfl) [0, 20] [1, 2, 3, 4, 5, 6, 7, 8, 9, 10, 11, 12, 13, 14, 15, 16, 17, 18, 19, 21, 22, 23, 24, 25, 26, 27, 28, 29] rfl rfl rfl rfl (by decide) dL_law_1337 (fun r w1 H locs hq hw => ?_)
    obtain ⟨rfl, rfl⟩ := hq
    have hw : kW γ A [(mbs, .inr (7, [.ref mbs_l, .ref mbs_c, .ref mbs_g, .ref mbs_r, .ref mbs_k, .ref mbs_b, .int 0, .int 0, .int 0])), (mbs_l, .inl (γ.2.1 0, 5, .inl fmbs_l)), (mbs_c, .inl (γ.2.1 0, 5, .inl fmbs_c)), (mbs_g, .inl (γ.2.1 0, 5, .inl fmbs_g)), (mbs_r, .inl (γ.2.1 1, 5, .inr (.inl fmbs_r))), (mbs_k, .inl (γ.2.1 0, 40, .inl fmbs_k)), (mbs_b, .inl (γ.2.1 0, 8, .inl fmbs_b)), (mby, .inl (γ.2.1 0, 40, .inl fmby)), (mbq, .inl (γ.2.1 0, 8, .inl fmbq)), (x2, .inr (3, [.ref x2s, .ref x2y, .ref x2q, .int 0, .int 0, .int 0])), (x2s, .inr (7, [.ref x2s_l, .ref x2s_c, .ref x2s_g, .ref x2s_r, .ref x2s_k, .ref x2s_b, .int 0, .int 0, .int 0])), (x2s_l, .inl (γ.2.1 0, 5, .inl fx2s_l)), (x2s_c, .inl (γ.2.1 0, 5, .inl fx2s_c)), (x2s_g, .inl (γ.2.1 0, 5, .inl fx2s_g)), (x2s_r, .inl (γ.2.1 1, 5, .inr (.inl fx2s_r))), (x2s_k, .inl (γ.2.1 0, 40, .inl fx2s_k)), (x2s_b, .inl (γ.2.1 0, 8, .inl fx2s_b)), (x2y, .inl (γ.2.1 0, 40, .inl fx2y)), (x2q, .inl (γ.2.1 0, 8, .inl fx2q)), (z36, .inl (γ.2.1 0, 6, .inl (fun _ => 0))), (z37, .inl (γ.2.1 0, 240, .inl (fun _ => 0))), (z38, .inl (γ.2.1 0, 240, .inl (fun _ => 0))), (z39, .inl (γ.2.1 0, 240, .inl (fun _ => 0))), (z40, .inl (γ.2.1 0, 5, .inl (fun _ => 0))), (z41, .inl (γ.2.1 0, 40, .inl (fun _ => 0))), (z42, .inl (γ.2.1 3, 40, .inl (fun _ => 0))), (z43, .inl (γ.2.1 0, 133, .inl (fun _ => 0))), (z46, .inl (γ.2.1 0, 532, .inl (fun _ => 0)))] s H locs := hw
    refine W.eq (g2 := F0 m 1340 ls [.int 0, .int 0]) rfl ?_
    refine lv_icmp_eq (tgt := 1370) hx hb dL_law_1340 (by decide) (fun _ => ?_) (fun h => absurd (by decide) h)
    exact law_end hC hr hlocks hX hbl hbA hAs hl9 _ _ (kW.sub hw [] rfl rfl) (by decide) (by decide) _ (lv_sub hl [0, 4] rfl)

set_option maxHeartbeats 4000000 in
set_option maxRecDepth 100000 in
theorem lc_30_2 {γ : kΓ} {l : Launch} {p : Program} {e : Env} {s : State} {m : MethodId} {below : List Frame} {meth : Method} {c : Code} {A : Nat → Prop} {b : Nat} {xs : Nat → Int32} (hC : kC γ p s m [Value.ref b].toArray c code 7 RL A) (hr : meth.sig.returnType = ret) (hlocks : meth.locks = false) (hX : va_X b 7 xs s s.heap) (hbl : b < s.heap.size) (hbA : ¬ A b) (hAs : ∀ q, A q → s.heap.size ≤ q) (hl9 : l.stackTraces = false) (x : Nat) (x0 : Nat) (x1 : Nat) (x2 : Nat) (x3 : Nat) (x4 : Nat) (x5 : Nat) (x6 : Nat) (x7 : Nat) (x8 : Nat) (x9 : Nat) (x10 : Nat) (z : Nat) (z2 : Nat) (z10 : Nat) (z11 : Nat) (z12 : Nat) (z13 : Nat) (z14 : Nat) (z15 : Nat) (z16 : Nat) (z17 : Nat) (z18 : Nat) (z19 : Nat) (z22 : Nat) (z23 : Nat) (z24 : Nat) (z25 : Nat) (z26 : Nat) (z27 : Nat) (z28 : Nat) (z29 : Nat) (z30 : Nat) (z31 : Nat) (z32 : Nat) (z33 : Nat) (z36 : Nat) (z37 : Nat) (z38 : Nat) (z39 : Nat) (z40 : Nat) (z41 : Nat) (z42 : Nat) (z43 : Nat) (z44 : Nat) (z45 : Nat) (z46 : Nat) (z47 : Nat) (z48 : Nat) (z55 : Nat) (z56 : Nat) (z59 : Nat) (z60 : Nat) (z61 : Nat) (fm : Nat → Option Nat) (mc : Nat) (mcs : Nat) (mcy : Nat) (mcq : Nat) (mcs_l : Nat) (mcs_c : Nat) (mcs_g : Nat) (mcs_r : Nat) (mcs_k : Nat) (mcs_b : Nat) (fmcs_l : Nat → Int32) (fmcs_c : Nat → Int32) (fmcs_g : Nat → Int32) (fmcs_r : Nat → Int64) (fmcs_k : Nat → Int32) (fmcs_b : Nat → Int32) (fmcy : Nat → Int32) (fmcq : Nat → Int32) (x2s : Nat) (x2y : Nat) (x2q : Nat) (x2s_l : Nat) (x2s_c : Nat) (x2s_g : Nat) (x2s_r : Nat) (x2s_k : Nat) (x2s_b : Nat) (fx2s_l : Nat → Int32) (fx2s_c : Nat → Int32) (fx2s_g : Nat → Int32) (fx2s_r : Nat → Int64) (fx2s_k : Nat → Int32) (fx2s_b : Nat → Int32) (fx2y : Nat → Int32) (fx2q : Nat → Int32) (ou : Nat) (hm2 : fm 2 = some mc) (hz : ∀ j, j < 5 → fx2s_g j = 0) (hv : xs 1 = 2) (H : Heap) (locs : List Loc) (hw : kW γ A [(x, .inr (10, [.ref x0, .ref x1, .ref x2, .ref x3, .ref x4, .ref x5, .ref x6, .ref x7, .ref x8, .ref x9, .ref x10])), (z, .inr (11, [.int 0, .int 0, .ref z2, .int 0, .int 0, .int 0, .int 0, .long 0, .int 0, .int 0, .ref z10, .ref z11, .ref z12, .ref z13, .ref z14, .ref z15, .ref z16, .ref z17, .ref z18, .ref z19, .int 0, .int 0, .ref z22, .ref z23, .ref z24, .ref z25, .ref z26, .ref z27, .ref z28, .ref z29, .ref z30, .ref z31, .ref z32, .ref z33, .int 0, .long 0, .ref z36, .ref z37, .ref z38, .ref z39, .ref z40, .ref z41, .ref z42, .ref z43, .ref z44, .ref z45, .ref z46, .ref z47, .ref z48, .int 0, .int 10, .int 0, .int 0, .int 0, .int 0, .ref z55, .ref z56, .int 0, .int 0, .ref z59, .ref z60, .ref z61, .int 0, .long 0])), (x3, .inl (γ.2.1 4, 4, .inr (.inr (.inr (.inr fm))))), (mc, .inr (3, [.ref mcs, .ref mcy, .ref mcq, .int 0, .int 0, .int 0])), (mcs, .inr (7, [.ref mcs_l, .ref mcs_c, .ref mcs_g, .ref mcs_r, .ref mcs_k, .ref mcs_b, .int 0, .int 0, .int 0])), (mcs_l, .inl (γ.2.1 0, 5, .inl fmcs_l)), (mcs_c, .inl (γ.2.1 0, 5, .inl fmcs_c)), (mcs_g, .inl (γ.2.1 0, 5, .inl fmcs_g)), (mcs_r, .inl (γ.2.1 1, 5, .inr (.inl fmcs_r))), (mcs_k, .inl (γ.2.1 0, 40, .inl fmcs_k)), (mcs_b, .inl (γ.2.1 0, 8, .inl fmcs_b)), (mcy, .inl (γ.2.1 0, 40, .inl fmcy)), (mcq, .inl (γ.2.1 0, 8, .inl fmcq)), (x2, .inr (3, [.ref x2s, .ref x2y, .ref x2q, .int 0, .int 0, .int 0])), (x2s, .inr (7, [.ref x2s_l, .ref x2s_c, .ref x2s_g, .ref x2s_r, .ref x2s_k, .ref x2s_b, .int 0, .int 0, .int 0])), (x2s_l, .inl (γ.2.1 0, 5, .inl fx2s_l)), (x2s_c, .inl (γ.2.1 0, 5, .inl fx2s_c)), (x2s_g, .inl (γ.2.1 0, 5, .inl fx2s_g)), (x2s_r, .inl (γ.2.1 1, 5, .inr (.inl fx2s_r))), (x2s_k, .inl (γ.2.1 0, 40, .inl fx2s_k)), (x2s_b, .inl (γ.2.1 0, 8, .inl fx2s_b)), (x2y, .inl (γ.2.1 0, 40, .inl fx2y)), (x2q, .inl (γ.2.1 0, 8, .inl fx2q)), (z48, .inl (γ.2.1 3, 4, .inl (fun _ => 0))), (z36, .inl (γ.2.1 0, 6, .inl (fun _ => 0))), (z37, .inl (γ.2.1 0, 240, .inl (fun _ => 0))), (z38, .inl (γ.2.1 0, 240, .inl (fun _ => 0))), (z39, .inl (γ.2.1 0, 240, .inl (fun _ => 0))), (z40, .inl (γ.2.1 0, 5, .inl (fun _ => 0))), (z41, .inl (γ.2.1 0, 40, .inl (fun _ => 0))), (z42, .inl (γ.2.1 3, 40, .inl (fun _ => 0))), (z43, .inl (γ.2.1 0, 133, .inl (fun _ => 0))), (z46, .inl (γ.2.1 0, 532, .inl (fun _ => 0)))] s H locs) (ls : Array Slot) (hl : lv_has ls 7 [(4, .int 0), (3, .ref ou), (2, .ref z), (1, .ref x), (0, .ref b)]) : W p l e room_1 s m [Value.ref b].toArray below meth c H locs 251 13922 (lw_Z below #[Value.ref b] s) (F0 m 1292 ls []) := by
  have hx := hC.1
  have hb := hC.2.1
  refine lv_aload_n hx hb dL_law_1292 rfl (lv_at hl 3 rfl) ?_
  refine lv_aload_n hx hb dL_law_1293 rfl (lv_at hl 4 rfl) ?_
  refine lv_iload hx hb dL_law_1294 (lv_at hl 0 rfl) ?_
  refine lv_iconst (v := 1) hx hb dL_law_1296 (by decide) ?_
  refine lv_iadd hx hb dL_law_1297 ?_
  refine lv_topi (fun x_2415 ex_2415 => ?_)
  obtain rfl : x_2415 = 1 := ex_2415.trans (by decide)
  refine va_sld hx hb hX hbl hbA hw.2.2 (k_in0 (by decide)) dL_law_1298 ?_
  refine lv_topi (fun x_2416 ex_2416 => ?_)
  obtain rfl : x_2416 = 2 := (show x_2416 = xs 1 from ex_2416).trans hv
  refine lv_aload_n hx hb dL_law_1299 rfl (lv_at hl 4 rfl) ?_
  refine lv_iload hx hb dL_law_1300 (lv_at hl 0 rfl) ?_
  refine lv_iconst (v := 2) hx hb dL_law_1302 (by decide) ?_
  refine lv_iadd hx hb dL_law_1303 ?_
  refine lv_topi (fun x_2417 ex_2417 => ?_)
  obtain rfl : x_2417 = 2 := ex_2417.trans (by decide)
  refine va_sld hx hb hX hbl hbA hw.2.2 (k_in0 (by decide)) dL_law_1304 ?_
  refine lv_topi (fun x_2418 ex_2418 => ?_)
  obtain rfl : x_2418 = xs 2 := ex_2418
  refine lv_if_eq (tgt := 1312) hx hb dL_law_1305 (by decide) (fun c_2419 => ?_) (fun c_2419 => ?_)
  · refine lv_iconst (v := 0) hx hb dL_law_1312 (by decide) ?_
    refine k_V (wr := [(z, .inr (11, [.int 0, .int 0, .ref z2, .int 0, .int 0, .int 0, .int 0, .long 0, .int 0, .int 0, .ref z10, .ref z11, .ref z12, .ref z13, .ref z14, .ref z15, .ref z16, .ref z17, .ref z18, .ref z19, .int 0, .int 0, .ref z22, .ref z23, .ref z24, .ref z25, .ref z26, .ref z27, .ref z28, .ref z29, .ref z30, .ref z31, .ref z32, .ref z33, .int 0, .long 0, .ref z36, .ref z37, .ref z38, .ref z39, .ref z40, .ref z41, .ref z42, .ref z43, .ref z44, .ref z45, .ref z46, .ref z47, .ref z48, .int 0, .int 10, .int 0, .int 0, .int 0, .int 0, .ref z55, .ref z56, .int 0, .int 0, .ref z59, .ref z60, .ref z61, .int 0, .long 0])), (z48, .inl (γ.2.1 3, 4, .inl (fun _ => 0))), (z36, .inl (γ.2.1 0, 6, .inl (fun _ => 0))), (z37, .inl (γ.2.1 0, 240, .inl (fun _ => 0))), (z38, .inl (γ.2.1 0, 240, .inl (fun _ => 0))), (z39, .inl (γ.2.1 0, 240, .inl (fun _ => 0))), (z40, .inl (γ.2.1 0, 5, .inl (fun _ => 0))), (z41, .inl (γ.2.1 0, 40, .inl (fun _ => 0))), (z42, .inl (γ.2.1 3, 40, .inl (fun _ => 0))), (z43, .inl (γ.2.1 0, 133, .inl (fun _ => 0))), (z46, .inl (γ.2.1 0, 532, .inl (fun _ => 0)))]) 2 gw_847 gw_848 gw_849 gw_1 gw_850 hd_X11_mark hC hw (c_X11_mark_2_0 γ l x x0 x1 x2 x3 x4 x5 x6 x7 x8 x9 x10 fm mc mcs mcs_l mcs_c mcs_g mcs_r mcs_k mcs_b mcy mcq fmcs_l fmcs_c fmcs_g fmcs_r fmcs_k fmcs_b fmcy fmcq x2s x2s_l x2s_c x2s_g x2s_r x2s_k x2s_b x2y x2q fx2s_l fx2s_c fx2s_g fx2s_r fx2s_k fx2s_b fx2y fx2q hm2) ⟨by decide, by decide⟩ ⟨by decide, by decide⟩ hl.1 rfl 0 rfl rfl rfl (Nat.le_of_ble_eq_true rfl) [0, 2, 3, 4, 5, 6, 7, 8, 9, 10, 11, 12, 13, 14, 15, 16, 17, 18, 19, 20, 21, 22] [1, 23, 24, 25, 26, 27, 28, 29, 30, 31, 32] rfl rfl rfl rfl (by decide) dL_law_1313 (fun r w1 H locs hq hw => ?_)
    obtain ⟨rfl, rfl⟩ := hq
    have hw : kW γ A [(z, .inr (11, [.int 0, .int 0, .ref z2, .int 0, .int 0, .int 0, .int 0, .long 0, .int 0, .int 0, .ref z10, .ref z11, .ref z12, .ref z13, .ref z14, .ref z15, .ref z16, .ref z17, .ref z18, .ref z19, .int 0, .int 0, .ref z22, .ref z23, .ref z24, .ref z25, .ref z26, .ref z27, .ref z28, .ref z29, .ref z30, .ref z31, .ref z32, .ref z33, .int 0, .long 0, .ref z36, .ref z37, .ref z38, .ref z39, .ref z40, .ref z41, .ref z42, .ref z43, .ref z44, .ref z45, .ref z46, .ref z47, .ref z48, .int 0, .int 10, .int 0, .int 0, .int 0, .int 0, .ref z55, .ref z56, .int 0, .int 0, .ref z59, .ref z60, .ref z61, .int 0, .long 0])), (z48, .inl (γ.2.1 3, 4, .inl (fun _ => 0))), (z36, .inl (γ.2.1 0, 6, .inl (fun _ => 0))), (z37, .inl (γ.2.1 0, 240, .inl (fun _ => 0))), (z38, .inl (γ.2.1 0, 240, .inl (fun _ => 0))), (z39, .inl (γ.2.1 0, 240, .inl (fun _ => 0))), (z40, .inl (γ.2.1 0, 5, .inl (fun _ => 0))), (z41, .inl (γ.2.1 0, 40, .inl (fun _ => 0))), (z42, .inl (γ.2.1 3, 40, .inl (fun _ => 0))), (z43, .inl (γ.2.1 0, 133, .inl (fun _ => 0))), (z46, .inl (γ.2.1 0, 532, .inl (fun _ => 0)))] s H locs := hw
    refine W.eq (g2 := F0 m 1316 ls [.int 1]) rfl ?_
    refine lv_aload_n hx hb dL_law_1316 rfl (lv_at hl 2 rfl) ?_
    refine lv_aload_n hx hb dL_law_1317 rfl (lv_at hl 4 rfl) ?_
    refine lv_iload hx hb dL_law_1318 (lv_at hl 0 rfl) ?_
    refine lv_iconst (v := 1) hx hb dL_law_1320 (by decide) ?_
    refine lv_iadd hx hb dL_law_1321 ?_
    refine lv_topi (fun x_2420 ex_2420 => ?_)
    obtain rfl : x_2420 = 1 := ex_2420.trans (by decide)
    refine va_sld hx hb hX hbl hbA hw.2.2 (k_in0 (by decide)) dL_law_1322 ?_
    refine lv_topi (fun x_2421 ex_2421 => ?_)
    obtain rfl : x_2421 = 2 := (show x_2421 = xs 1 from ex_2421).trans hv
    refine lv_aload_n hx hb dL_law_1323 rfl (lv_at hl 4 rfl) ?_
    refine lv_iload hx hb dL_law_1324 (lv_at hl 0 rfl) ?_
    refine lv_iconst (v := 2) hx hb dL_law_1326 (by decide) ?_
    refine lv_iadd hx hb dL_law_1327 ?_
    refine lv_topi (fun x_2422 ex_2422 => ?_)
    obtain rfl : x_2422 = 2 := ex_2422.trans (by decide)
    refine va_sld hx hb hX hbl hbA hw.2.2 (k_in0 (by decide)) dL_law_1328 ?_
    refine lv_topi (fun x_2423 ex_2423 => ?_)
    obtain rfl : x_2423 = xs 2 := ex_2423
    refine lv_if_eq (tgt := 1336) hx hb dL_law_1329 (by decide) (fun _ => ?_) (fun h => absurd c_2419 h)
    refine lv_iconst (v := 0) hx hb dL_law_1336 (by decide) ?_
    refine k_V (wr := []) 2 gw_1803 gw_1804 gw_1805 gw_15 gw_1806 hd_X12_mark hC hw (c_X12_mark_2_0 γ l z z2 z10 z11 z12 z13 z14 z15 z16 z17 z18 z19 z22 z23 z24 z25 z26 z27 z28 z29 z30 z31 z32 z33 z36 z37 z38 z39 z40 z41 z42 z43 z44 z45 z46 z47 z48 z55 z56 z59 z60 z61 (fun _ => 0) (fun _ => 0)) ⟨by decide, by decide⟩ ⟨by decide, by decide⟩ hl.1 rfl 0 rfl rfl rfl (Nat.le_of_ble_eq_true rfl) [0, 1, 2, 3, 4, 5, 6, 7, 8, 9, 10] [] rfl rfl rfl rfl (by decide) dL_law_1337 (fun r w1 H locs hq hw => ?_)
    obtain ⟨rfl, rfl⟩ := hq
    have hw : kW γ A [] s H locs := hw
    refine W.eq (g2 := F0 m 1340 ls [.int 1, .int 1]) rfl ?_
    refine lv_icmp_eq (tgt := 1370) hx hb dL_law_1340 (by decide) (fun _ => ?_) (fun h => absurd (by decide) h)
    exact law_end hC hr hlocks hX hbl hbA hAs hl9 _ _ (kW.sub hw [] rfl rfl) (by decide) (by decide) _ (lv_sub hl [0, 4] rfl)
  · refine lv_iconst (v := 1) hx hb dL_law_1308 (by decide) ?_
    refine lv_goto (tgt := 1313) hx hb dL_law_1309 (by decide) ?_
    refine k_V (wr := [(z, .inr (11, [.int 0, .int 0, .ref z2, .int 0, .int 0, .int 0, .int 0, .long 0, .int 0, .int 0, .ref z10, .ref z11, .ref z12, .ref z13, .ref z14, .ref z15, .ref z16, .ref z17, .ref z18, .ref z19, .int 0, .int 0, .ref z22, .ref z23, .ref z24, .ref z25, .ref z26, .ref z27, .ref z28, .ref z29, .ref z30, .ref z31, .ref z32, .ref z33, .int 0, .long 0, .ref z36, .ref z37, .ref z38, .ref z39, .ref z40, .ref z41, .ref z42, .ref z43, .ref z44, .ref z45, .ref z46, .ref z47, .ref z48, .int 0, .int 10, .int 0, .int 0, .int 0, .int 0, .ref z55, .ref z56, .int 0, .int 0, .ref z59, .ref z60, .ref z61, .int 0, .long 0])), (mcs, .inr (7, [.ref mcs_l, .ref mcs_c, .ref mcs_g, .ref mcs_r, .ref mcs_k, .ref mcs_b, .int 0, .int 0, .int 0])), (mcs_l, .inl (γ.2.1 0, 5, .inl fmcs_l)), (mcs_c, .inl (γ.2.1 0, 5, .inl fmcs_c)), (mcs_g, .inl (γ.2.1 0, 5, .inl fmcs_g)), (mcs_r, .inl (γ.2.1 1, 5, .inr (.inl fmcs_r))), (mcs_k, .inl (γ.2.1 0, 40, .inl fmcs_k)), (mcs_b, .inl (γ.2.1 0, 8, .inl fmcs_b)), (mcy, .inl (γ.2.1 0, 40, .inl fmcy)), (mcq, .inl (γ.2.1 0, 8, .inl fmcq)), (x2, .inr (3, [.ref x2s, .ref x2y, .ref x2q, .int 0, .int 0, .int 0])), (x2s, .inr (7, [.ref x2s_l, .ref x2s_c, .ref x2s_g, .ref x2s_r, .ref x2s_k, .ref x2s_b, .int 0, .int 0, .int 0])), (x2s_l, .inl (γ.2.1 0, 5, .inl fx2s_l)), (x2s_c, .inl (γ.2.1 0, 5, .inl fx2s_c)), (x2s_g, .inl (γ.2.1 0, 5, .inl fx2s_g)), (x2s_r, .inl (γ.2.1 1, 5, .inr (.inl fx2s_r))), (x2s_k, .inl (γ.2.1 0, 40, .inl fx2s_k)), (x2s_b, .inl (γ.2.1 0, 8, .inl fx2s_b)), (x2y, .inl (γ.2.1 0, 40, .inl fx2y)), (x2q, .inl (γ.2.1 0, 8, .inl fx2q)), (z48, .inl (γ.2.1 3, 4, .inl (fun _ => 0))), (z36, .inl (γ.2.1 0, 6, .inl (fun _ => 0))), (z37, .inl (γ.2.1 0, 240, .inl (fun _ => 0))), (z38, .inl (γ.2.1 0, 240, .inl (fun _ => 0))), (z39, .inl (γ.2.1 0, 240, .inl (fun _ => 0))), (z40, .inl (γ.2.1 0, 5, .inl (fun _ => 0))), (z41, .inl (γ.2.1 0, 40, .inl (fun _ => 0))), (z42, .inl (γ.2.1 3, 40, .inl (fun _ => 0))), (z43, .inl (γ.2.1 0, 133, .inl (fun _ => 0))), (z46, .inl (γ.2.1 0, 532, .inl (fun _ => 0)))]) 2 gw_847 gw_848 gw_849 gw_1 gw_850 hd_X11_mark hC hw (c_X11_mark_2_1 γ l x x0 x1 x2 x3 x4 x5 x6 x7 x8 x9 x10 fm mc mcs mcy mcq hm2) ⟨by decide, by decide⟩ ⟨by decide, by decide⟩ hl.1 rfl 0 rfl rfl rfl (Nat.le_of_ble_eq_true rfl) [0, 2, 3] [1, 4, 5, 6, 7, 8, 9, 10, 11, 12, 13, 14, 15, 16, 17, 18, 19, 20, 21, 22, 23, 24, 25, 26, 27, 28, 29, 30, 31, 32] rfl rfl rfl rfl (by decide) dL_law_1313 (fun r w1 H locs hq hw => ?_)
    obtain ⟨rfl, rfl⟩ := hq
    have hw : kW γ A [(z, .inr (11, [.int 0, .int 0, .ref z2, .int 0, .int 0, .int 0, .int 0, .long 0, .int 0, .int 0, .ref z10, .ref z11, .ref z12, .ref z13, .ref z14, .ref z15, .ref z16, .ref z17, .ref z18, .ref z19, .int 0, .int 0, .ref z22, .ref z23, .ref z24, .ref z25, .ref z26, .ref z27, .ref z28, .ref z29, .ref z30, .ref z31, .ref z32, .ref z33, .int 0, .long 0, .ref z36, .ref z37, .ref z38, .ref z39, .ref z40, .ref z41, .ref z42, .ref z43, .ref z44, .ref z45, .ref z46, .ref z47, .ref z48, .int 0, .int 10, .int 0, .int 0, .int 0, .int 0, .ref z55, .ref z56, .int 0, .int 0, .ref z59, .ref z60, .ref z61, .int 0, .long 0])), (mcs, .inr (7, [.ref mcs_l, .ref mcs_c, .ref mcs_g, .ref mcs_r, .ref mcs_k, .ref mcs_b, .int 0, .int 0, .int 0])), (mcs_l, .inl (γ.2.1 0, 5, .inl fmcs_l)), (mcs_c, .inl (γ.2.1 0, 5, .inl fmcs_c)), (mcs_g, .inl (γ.2.1 0, 5, .inl fmcs_g)), (mcs_r, .inl (γ.2.1 1, 5, .inr (.inl fmcs_r))), (mcs_k, .inl (γ.2.1 0, 40, .inl fmcs_k)), (mcs_b, .inl (γ.2.1 0, 8, .inl fmcs_b)), (mcy, .inl (γ.2.1 0, 40, .inl fmcy)), (mcq, .inl (γ.2.1 0, 8, .inl fmcq)), (x2, .inr (3, [.ref x2s, .ref x2y, .ref x2q, .int 0, .int 0, .int 0])), (x2s, .inr (7, [.ref x2s_l, .ref x2s_c, .ref x2s_g, .ref x2s_r, .ref x2s_k, .ref x2s_b, .int 0, .int 0, .int 0])), (x2s_l, .inl (γ.2.1 0, 5, .inl fx2s_l)), (x2s_c, .inl (γ.2.1 0, 5, .inl fx2s_c)), (x2s_g, .inl (γ.2.1 0, 5, .inl fx2s_g)), (x2s_r, .inl (γ.2.1 1, 5, .inr (.inl fx2s_r))), (x2s_k, .inl (γ.2.1 0, 40, .inl fx2s_k)), (x2s_b, .inl (γ.2.1 0, 8, .inl fx2s_b)), (x2y, .inl (γ.2.1 0, 40, .inl fx2y)), (x2q, .inl (γ.2.1 0, 8, .inl fx2q)), (z48, .inl (γ.2.1 3, 4, .inl (fun _ => 0))), (z36, .inl (γ.2.1 0, 6, .inl (fun _ => 0))), (z37, .inl (γ.2.1 0, 240, .inl (fun _ => 0))), (z38, .inl (γ.2.1 0, 240, .inl (fun _ => 0))), (z39, .inl (γ.2.1 0, 240, .inl (fun _ => 0))), (z40, .inl (γ.2.1 0, 5, .inl (fun _ => 0))), (z41, .inl (γ.2.1 0, 40, .inl (fun _ => 0))), (z42, .inl (γ.2.1 3, 40, .inl (fun _ => 0))), (z43, .inl (γ.2.1 0, 133, .inl (fun _ => 0))), (z46, .inl (γ.2.1 0, 532, .inl (fun _ => 0)))] s H locs := hw
    refine W.eq (g2 := F0 m 1316 ls [.int 0]) rfl ?_
    refine lv_aload_n hx hb dL_law_1316 rfl (lv_at hl 2 rfl) ?_
    refine lv_aload_n hx hb dL_law_1317 rfl (lv_at hl 4 rfl) ?_
    refine lv_iload hx hb dL_law_1318 (lv_at hl 0 rfl) ?_
    refine lv_iconst (v := 1) hx hb dL_law_1320 (by decide) ?_
    refine lv_iadd hx hb dL_law_1321 ?_
    refine lv_topi (fun x_2424 ex_2424 => ?_)
    obtain rfl : x_2424 = 1 := ex_2424.trans (by decide)
    refine va_sld hx hb hX hbl hbA hw.2.2 (k_in0 (by decide)) dL_law_1322 ?_
    refine lv_topi (fun x_2425 ex_2425 => ?_)
    obtain rfl : x_2425 = 2 := (show x_2425 = xs 1 from ex_2425).trans hv
    refine lv_aload_n hx hb dL_law_1323 rfl (lv_at hl 4 rfl) ?_
    refine lv_iload hx hb dL_law_1324 (lv_at hl 0 rfl) ?_
    refine lv_iconst (v := 2) hx hb dL_law_1326 (by decide) ?_
    refine lv_iadd hx hb dL_law_1327 ?_
    refine lv_topi (fun x_2426 ex_2426 => ?_)
    obtain rfl : x_2426 = 2 := ex_2426.trans (by decide)
    refine va_sld hx hb hX hbl hbA hw.2.2 (k_in0 (by decide)) dL_law_1328 ?_
    refine lv_topi (fun x_2427 ex_2427 => ?_)
    obtain rfl : x_2427 = xs 2 := ex_2427
    refine lv_if_eq (tgt := 1336) hx hb dL_law_1329 (by decide) (fun h => absurd h c_2419) (fun _ => ?_)
    refine lv_iconst (v := 1) hx hb dL_law_1332 (by decide) ?_
    refine lv_goto (tgt := 1337) hx hb dL_law_1333 (by decide) ?_
    refine k_V (wr := [(mcs, .inr (7, [.ref mcs_l, .ref mcs_c, .ref mcs_g, .ref mcs_r, .ref mcs_k, .ref mcs_b, .int 0, .int 0, .int 0])), (mcs_l, .inl (γ.2.1 0, 5, .inl fmcs_l)), (mcs_c, .inl (γ.2.1 0, 5, .inl fmcs_c)), (mcs_g, .inl (γ.2.1 0, 5, .inl fmcs_g)), (mcs_r, .inl (γ.2.1 1, 5, .inr (.inl fmcs_r))), (mcs_k, .inl (γ.2.1 0, 40, .inl fmcs_k)), (mcs_b, .inl (γ.2.1 0, 8, .inl fmcs_b)), (mcy, .inl (γ.2.1 0, 40, .inl fmcy)), (mcq, .inl (γ.2.1 0, 8, .inl fmcq)), (x2, .inr (3, [.ref x2s, .ref x2y, .ref x2q, .int 0, .int 0, .int 0])), (x2s, .inr (7, [.ref x2s_l, .ref x2s_c, .ref x2s_g, .ref x2s_r, .ref x2s_k, .ref x2s_b, .int 0, .int 0, .int 0])), (x2s_l, .inl (γ.2.1 0, 5, .inl fx2s_l)), (x2s_c, .inl (γ.2.1 0, 5, .inl fx2s_c)), (x2s_g, .inl (γ.2.1 0, 5, .inl fx2s_g)), (x2s_r, .inl (γ.2.1 1, 5, .inr (.inl fx2s_r))), (x2s_k, .inl (γ.2.1 0, 40, .inl fx2s_k)), (x2s_b, .inl (γ.2.1 0, 8, .inl fx2s_b)), (x2y, .inl (γ.2.1 0, 40, .inl fx2y)), (x2q, .inl (γ.2.1 0, 8, .inl fx2q)), (z36, .inl (γ.2.1 0, 6, .inl (fun _ => 0))), (z37, .inl (γ.2.1 0, 240, .inl (fun _ => 0))), (z38, .inl (γ.2.1 0, 240, .inl (fun _ => 0))), (z39, .inl (γ.2.1 0, 240, .inl (fun _ => 0))), (z40, .inl (γ.2.1 0, 5, .inl (fun _ => 0))), (z41, .inl (γ.2.1 0, 40, .inl (fun _ => 0))), (z42, .inl (γ.2.1 3, 40, .inl (fun _ => 0))), (z43, .inl (γ.2.1 0, 133, .inl (fun _ => 0))), (z46, .inl (γ.2.1 0, 532, .inl (fun _ => 0)))]) 2 gw_1803 gw_1804 gw_1805 gw_15 gw_1806 hd_X12_mark hC hw (c_X12_mark_2_1 γ l z z2 z10 z11 z12 z13 z14 z15 z16 z17 z18 z19 z22 z23 z24 z25 z26 z27 z28 z29 z30 z31 z32 z33 z36 z37 z38 z39 z40 z41 z42 z43 z44 z45 z46 z47 z48 z55 z56 z59 z60 z61) ⟨by decide, by decide⟩ ⟨by decide, by decide⟩ hl.1 rfl 0 rfl rfl rfl (Nat.le_of_ble_eq_true rfl) [0, 20] [1, 2, 3, 4, 5, 6, 7, 8, 9, 10, 11, 12, 13, 14, 15, 16, 17, 18, 19, 21, 22, 23, 24, 25, 26, 27, 28, 29] rfl rfl rfl rfl (by decide) dL_law_1337 (fun r w1 H locs hq hw => ?_)
    obtain ⟨rfl, rfl⟩ := hq
    have hw : kW γ A [(mcs, .inr (7, [.ref mcs_l, .ref mcs_c, .ref mcs_g, .ref mcs_r, .ref mcs_k, .ref mcs_b, .int 0, .int 0, .int 0])), (mcs_l, .inl (γ.2.1 0, 5, .inl fmcs_l)), (mcs_c, .inl (γ.2.1 0, 5, .inl fmcs_c)), (mcs_g, .inl (γ.2.1 0, 5, .inl fmcs_g)), (mcs_r, .inl (γ.2.1 1, 5, .inr (.inl fmcs_r))), (mcs_k, .inl (γ.2.1 0, 40, .inl fmcs_k)), (mcs_b, .inl (γ.2.1 0, 8, .inl fmcs_b)), (mcy, .inl (γ.2.1 0, 40, .inl fmcy)), (mcq, .inl (γ.2.1 0, 8, .inl fmcq)), (x2, .inr (3, [.ref x2s, .ref x2y, .ref x2q, .int 0, .int 0, .int 0])), (x2s, .inr (7, [.ref x2s_l, .ref x2s_c, .ref x2s_g, .ref x2s_r, .ref x2s_k, .ref x2s_b, .int 0, .int 0, .int 0])), (x2s_l, .inl (γ.2.1 0, 5, .inl fx2s_l)), (x2s_c, .inl (γ.2.1 0, 5, .inl fx2s_c)), (x2s_g, .inl (γ.2.1 0, 5, .inl fx2s_g)), (x2s_r, .inl (γ.2.1 1, 5, .inr (.inl fx2s_r))), (x2s_k, .inl (γ.2.1 0, 40, .inl fx2s_k)), (x2s_b, .inl (γ.2.1 0, 8, .inl fx2s_b)), (x2y, .inl (γ.2.1 0, 40, .inl fx2y)), (x2q, .inl (γ.2.1 0, 8, .inl fx2q)), (z36, .inl (γ.2.1 0, 6, .inl (fun _ => 0))), (z37, .inl (γ.2.1 0, 240, .inl (fun _ => 0))), (z38, .inl (γ.2.1 0, 240, .inl (fun _ => 0))), (z39, .inl (γ.2.1 0, 240, .inl (fun _ => 0))), (z40, .inl (γ.2.1 0, 5, .inl (fun _ => 0))), (z41, .inl (γ.2.1 0, 40, .inl (fun _ => 0))), (z42, .inl (γ.2.1 3, 40, .inl (fun _ => 0))), (z43, .inl (γ.2.1 0, 133, .inl (fun _ => 0))), (z46, .inl (γ.2.1 0, 532, .inl (fun _ => 0)))] s H locs := hw
    refine W.eq (g2 := F0 m 1340 ls [.int 0, .int 0]) rfl ?_
    refine lv_icmp_eq (tgt := 1370) hx hb dL_law_1340 (by decide) (fun _ => ?_) (fun h => absurd (by decide) h)
    exact law_end hC hr hlocks hX hbl hbA hAs hl9 _ _ (kW.sub hw [] rfl rfl) (by decide) (by decide) _ (lv_sub hl [0, 4] rfl)

set_option maxHeartbeats 4000000 in
set_option maxRecDepth 100000 in
theorem lc_30_3 {γ : kΓ} {l : Launch} {p : Program} {e : Env} {s : State} {m : MethodId} {below : List Frame} {meth : Method} {c : Code} {A : Nat → Prop} {b : Nat} {xs : Nat → Int32} (hC : kC γ p s m [Value.ref b].toArray c code 7 RL A) (hr : meth.sig.returnType = ret) (hlocks : meth.locks = false) (hX : va_X b 7 xs s s.heap) (hbl : b < s.heap.size) (hbA : ¬ A b) (hAs : ∀ q, A q → s.heap.size ≤ q) (hl9 : l.stackTraces = false) (x : Nat) (x0 : Nat) (x1 : Nat) (x2 : Nat) (x3 : Nat) (x4 : Nat) (x5 : Nat) (x6 : Nat) (x7 : Nat) (x8 : Nat) (x9 : Nat) (x10 : Nat) (z : Nat) (z2 : Nat) (z10 : Nat) (z11 : Nat) (z12 : Nat) (z13 : Nat) (z14 : Nat) (z15 : Nat) (z16 : Nat) (z17 : Nat) (z18 : Nat) (z19 : Nat) (z22 : Nat) (z23 : Nat) (z24 : Nat) (z25 : Nat) (z26 : Nat) (z27 : Nat) (z28 : Nat) (z29 : Nat) (z30 : Nat) (z31 : Nat) (z32 : Nat) (z33 : Nat) (z36 : Nat) (z37 : Nat) (z38 : Nat) (z39 : Nat) (z40 : Nat) (z41 : Nat) (z42 : Nat) (z43 : Nat) (z44 : Nat) (z45 : Nat) (z46 : Nat) (z47 : Nat) (z48 : Nat) (z55 : Nat) (z56 : Nat) (z59 : Nat) (z60 : Nat) (z61 : Nat) (fm : Nat → Option Nat) (md : Nat) (mds : Nat) (mdy : Nat) (mdq : Nat) (mds_l : Nat) (mds_c : Nat) (mds_g : Nat) (mds_r : Nat) (mds_k : Nat) (mds_b : Nat) (fmds_l : Nat → Int32) (fmds_c : Nat → Int32) (fmds_g : Nat → Int32) (fmds_r : Nat → Int64) (fmds_k : Nat → Int32) (fmds_b : Nat → Int32) (fmdy : Nat → Int32) (fmdq : Nat → Int32) (x2s : Nat) (x2y : Nat) (x2q : Nat) (x2s_l : Nat) (x2s_c : Nat) (x2s_g : Nat) (x2s_r : Nat) (x2s_k : Nat) (x2s_b : Nat) (fx2s_l : Nat → Int32) (fx2s_c : Nat → Int32) (fx2s_g : Nat → Int32) (fx2s_r : Nat → Int64) (fx2s_k : Nat → Int32) (fx2s_b : Nat → Int32) (fx2y : Nat → Int32) (fx2q : Nat → Int32) (ou : Nat) (hm3 : fm 3 = some md) (hz : ∀ j, j < 5 → fx2s_g j = 0) (hv : xs 1 = 3) (H : Heap) (locs : List Loc) (hw : kW γ A [(x, .inr (10, [.ref x0, .ref x1, .ref x2, .ref x3, .ref x4, .ref x5, .ref x6, .ref x7, .ref x8, .ref x9, .ref x10])), (z, .inr (11, [.int 0, .int 0, .ref z2, .int 0, .int 0, .int 0, .int 0, .long 0, .int 0, .int 0, .ref z10, .ref z11, .ref z12, .ref z13, .ref z14, .ref z15, .ref z16, .ref z17, .ref z18, .ref z19, .int 0, .int 0, .ref z22, .ref z23, .ref z24, .ref z25, .ref z26, .ref z27, .ref z28, .ref z29, .ref z30, .ref z31, .ref z32, .ref z33, .int 0, .long 0, .ref z36, .ref z37, .ref z38, .ref z39, .ref z40, .ref z41, .ref z42, .ref z43, .ref z44, .ref z45, .ref z46, .ref z47, .ref z48, .int 0, .int 10, .int 0, .int 0, .int 0, .int 0, .ref z55, .ref z56, .int 0, .int 0, .ref z59, .ref z60, .ref z61, .int 0, .long 0])), (x3, .inl (γ.2.1 4, 4, .inr (.inr (.inr (.inr fm))))), (md, .inr (3, [.ref mds, .ref mdy, .ref mdq, .int 0, .int 0, .int 0])), (mds, .inr (7, [.ref mds_l, .ref mds_c, .ref mds_g, .ref mds_r, .ref mds_k, .ref mds_b, .int 0, .int 0, .int 0])), (mds_l, .inl (γ.2.1 0, 5, .inl fmds_l)), (mds_c, .inl (γ.2.1 0, 5, .inl fmds_c)), (mds_g, .inl (γ.2.1 0, 5, .inl fmds_g)), (mds_r, .inl (γ.2.1 1, 5, .inr (.inl fmds_r))), (mds_k, .inl (γ.2.1 0, 40, .inl fmds_k)), (mds_b, .inl (γ.2.1 0, 8, .inl fmds_b)), (mdy, .inl (γ.2.1 0, 40, .inl fmdy)), (mdq, .inl (γ.2.1 0, 8, .inl fmdq)), (x2, .inr (3, [.ref x2s, .ref x2y, .ref x2q, .int 0, .int 0, .int 0])), (x2s, .inr (7, [.ref x2s_l, .ref x2s_c, .ref x2s_g, .ref x2s_r, .ref x2s_k, .ref x2s_b, .int 0, .int 0, .int 0])), (x2s_l, .inl (γ.2.1 0, 5, .inl fx2s_l)), (x2s_c, .inl (γ.2.1 0, 5, .inl fx2s_c)), (x2s_g, .inl (γ.2.1 0, 5, .inl fx2s_g)), (x2s_r, .inl (γ.2.1 1, 5, .inr (.inl fx2s_r))), (x2s_k, .inl (γ.2.1 0, 40, .inl fx2s_k)), (x2s_b, .inl (γ.2.1 0, 8, .inl fx2s_b)), (x2y, .inl (γ.2.1 0, 40, .inl fx2y)), (x2q, .inl (γ.2.1 0, 8, .inl fx2q)), (z48, .inl (γ.2.1 3, 4, .inl (fun _ => 0))), (z36, .inl (γ.2.1 0, 6, .inl (fun _ => 0))), (z37, .inl (γ.2.1 0, 240, .inl (fun _ => 0))), (z38, .inl (γ.2.1 0, 240, .inl (fun _ => 0))), (z39, .inl (γ.2.1 0, 240, .inl (fun _ => 0))), (z40, .inl (γ.2.1 0, 5, .inl (fun _ => 0))), (z41, .inl (γ.2.1 0, 40, .inl (fun _ => 0))), (z42, .inl (γ.2.1 3, 40, .inl (fun _ => 0))), (z43, .inl (γ.2.1 0, 133, .inl (fun _ => 0))), (z46, .inl (γ.2.1 0, 532, .inl (fun _ => 0)))] s H locs) (ls : Array Slot) (hl : lv_has ls 7 [(4, .int 0), (3, .ref ou), (2, .ref z), (1, .ref x), (0, .ref b)]) : W p l e room_1 s m [Value.ref b].toArray below meth c H locs 251 13922 (lw_Z below #[Value.ref b] s) (F0 m 1292 ls []) := by
  have hx := hC.1
  have hb := hC.2.1
  refine lv_aload_n hx hb dL_law_1292 rfl (lv_at hl 3 rfl) ?_
  refine lv_aload_n hx hb dL_law_1293 rfl (lv_at hl 4 rfl) ?_
  refine lv_iload hx hb dL_law_1294 (lv_at hl 0 rfl) ?_
  refine lv_iconst (v := 1) hx hb dL_law_1296 (by decide) ?_
  refine lv_iadd hx hb dL_law_1297 ?_
  refine lv_topi (fun x_2428 ex_2428 => ?_)
  obtain rfl : x_2428 = 1 := ex_2428.trans (by decide)
  refine va_sld hx hb hX hbl hbA hw.2.2 (k_in0 (by decide)) dL_law_1298 ?_
  refine lv_topi (fun x_2429 ex_2429 => ?_)
  obtain rfl : x_2429 = 3 := (show x_2429 = xs 1 from ex_2429).trans hv
  refine lv_aload_n hx hb dL_law_1299 rfl (lv_at hl 4 rfl) ?_
  refine lv_iload hx hb dL_law_1300 (lv_at hl 0 rfl) ?_
  refine lv_iconst (v := 2) hx hb dL_law_1302 (by decide) ?_
  refine lv_iadd hx hb dL_law_1303 ?_
  refine lv_topi (fun x_2430 ex_2430 => ?_)
  obtain rfl : x_2430 = 2 := ex_2430.trans (by decide)
  refine va_sld hx hb hX hbl hbA hw.2.2 (k_in0 (by decide)) dL_law_1304 ?_
  refine lv_topi (fun x_2431 ex_2431 => ?_)
  obtain rfl : x_2431 = xs 2 := ex_2431
  refine lv_if_eq (tgt := 1312) hx hb dL_law_1305 (by decide) (fun c_2432 => ?_) (fun c_2432 => ?_)
  · refine lv_iconst (v := 0) hx hb dL_law_1312 (by decide) ?_
    refine k_V (wr := [(z, .inr (11, [.int 0, .int 0, .ref z2, .int 0, .int 0, .int 0, .int 0, .long 0, .int 0, .int 0, .ref z10, .ref z11, .ref z12, .ref z13, .ref z14, .ref z15, .ref z16, .ref z17, .ref z18, .ref z19, .int 0, .int 0, .ref z22, .ref z23, .ref z24, .ref z25, .ref z26, .ref z27, .ref z28, .ref z29, .ref z30, .ref z31, .ref z32, .ref z33, .int 0, .long 0, .ref z36, .ref z37, .ref z38, .ref z39, .ref z40, .ref z41, .ref z42, .ref z43, .ref z44, .ref z45, .ref z46, .ref z47, .ref z48, .int 0, .int 10, .int 0, .int 0, .int 0, .int 0, .ref z55, .ref z56, .int 0, .int 0, .ref z59, .ref z60, .ref z61, .int 0, .long 0])), (z48, .inl (γ.2.1 3, 4, .inl (fun _ => 0))), (z36, .inl (γ.2.1 0, 6, .inl (fun _ => 0))), (z37, .inl (γ.2.1 0, 240, .inl (fun _ => 0))), (z38, .inl (γ.2.1 0, 240, .inl (fun _ => 0))), (z39, .inl (γ.2.1 0, 240, .inl (fun _ => 0))), (z40, .inl (γ.2.1 0, 5, .inl (fun _ => 0))), (z41, .inl (γ.2.1 0, 40, .inl (fun _ => 0))), (z42, .inl (γ.2.1 3, 40, .inl (fun _ => 0))), (z43, .inl (γ.2.1 0, 133, .inl (fun _ => 0))), (z46, .inl (γ.2.1 0, 532, .inl (fun _ => 0)))]) 2 gw_847 gw_848 gw_849 gw_1 gw_850 hd_X11_mark hC hw (c_X11_mark_3_0 γ l x x0 x1 x2 x3 x4 x5 x6 x7 x8 x9 x10 fm md mds mds_l mds_c mds_g mds_r mds_k mds_b mdy mdq fmds_l fmds_c fmds_g fmds_r fmds_k fmds_b fmdy fmdq x2s x2s_l x2s_c x2s_g x2s_r x2s_k x2s_b x2y x2q fx2s_l fx2s_c fx2s_g fx2s_r fx2s_k fx2s_b fx2y fx2q hm3) ⟨by decide, by decide⟩ ⟨by decide, by decide⟩ hl.1 rfl 0 rfl rfl rfl (Nat.le_of_ble_eq_true rfl) [0, 2, 3, 4, 5, 6, 7, 8, 9, 10, 11, 12, 13, 14, 15, 16, 17, 18, 19, 20, 21, 22] [1, 23, 24, 25, 26, 27, 28, 29, 30, 31, 32] rfl rfl rfl rfl (by decide) dL_law_1313 (fun r w1 H locs hq hw => ?_)
    obtain ⟨rfl, rfl⟩ := hq
    have hw : kW γ A [(z, .inr (11, [.int 0, .int 0, .ref z2, .int 0, .int 0, .int 0, .int 0, .long 0, .int 0, .int 0, .ref z10, .ref z11, .ref z12, .ref z13, .ref z14, .ref z15, .ref z16, .ref z17, .ref z18, .ref z19, .int 0, .int 0, .ref z22, .ref z23, .ref z24, .ref z25, .ref z26, .ref z27, .ref z28, .ref z29, .ref z30, .ref z31, .ref z32, .ref z33, .int 0, .long 0, .ref z36, .ref z37, .ref z38, .ref z39, .ref z40, .ref z41, .ref z42, .ref z43, .ref z44, .ref z45, .ref z46, .ref z47, .ref z48, .int 0, .int 10, .int 0, .int 0, .int 0, .int 0, .ref z55, .ref z56, .int 0, .int 0, .ref z59, .ref z60, .ref z61, .int 0, .long 0])), (z48, .inl (γ.2.1 3, 4, .inl (fun _ => 0))), (z36, .inl (γ.2.1 0, 6, .inl (fun _ => 0))), (z37, .inl (γ.2.1 0, 240, .inl (fun _ => 0))), (z38, .inl (γ.2.1 0, 240, .inl (fun _ => 0))), (z39, .inl (γ.2.1 0, 240, .inl (fun _ => 0))), (z40, .inl (γ.2.1 0, 5, .inl (fun _ => 0))), (z41, .inl (γ.2.1 0, 40, .inl (fun _ => 0))), (z42, .inl (γ.2.1 3, 40, .inl (fun _ => 0))), (z43, .inl (γ.2.1 0, 133, .inl (fun _ => 0))), (z46, .inl (γ.2.1 0, 532, .inl (fun _ => 0)))] s H locs := hw
    refine W.eq (g2 := F0 m 1316 ls [.int 1]) rfl ?_
    refine lv_aload_n hx hb dL_law_1316 rfl (lv_at hl 2 rfl) ?_
    refine lv_aload_n hx hb dL_law_1317 rfl (lv_at hl 4 rfl) ?_
    refine lv_iload hx hb dL_law_1318 (lv_at hl 0 rfl) ?_
    refine lv_iconst (v := 1) hx hb dL_law_1320 (by decide) ?_
    refine lv_iadd hx hb dL_law_1321 ?_
    refine lv_topi (fun x_2433 ex_2433 => ?_)
    obtain rfl : x_2433 = 1 := ex_2433.trans (by decide)
    refine va_sld hx hb hX hbl hbA hw.2.2 (k_in0 (by decide)) dL_law_1322 ?_
    refine lv_topi (fun x_2434 ex_2434 => ?_)
    obtain rfl : x_2434 = 3 := (show x_2434 = xs 1 from ex_2434).trans hv
    refine lv_aload_n hx hb dL_law_1323 rfl (lv_at hl 4 rfl) ?_
    refine lv_iload hx hb dL_law_1324 (lv_at hl 0 rfl) ?_
    refine lv_iconst (v := 2) hx hb dL_law_1326 (by decide) ?_
    refine lv_iadd hx hb dL_law_1327 ?_
    refine lv_topi (fun x_2435 ex_2435 => ?_)
    obtain rfl : x_2435 = 2 := ex_2435.trans (by decide)
    refine va_sld hx hb hX hbl hbA hw.2.2 (k_in0 (by decide)) dL_law_1328 ?_
    refine lv_topi (fun x_2436 ex_2436 => ?_)
    obtain rfl : x_2436 = xs 2 := ex_2436
    refine lv_if_eq (tgt := 1336) hx hb dL_law_1329 (by decide) (fun _ => ?_) (fun h => absurd c_2432 h)
    refine lv_iconst (v := 0) hx hb dL_law_1336 (by decide) ?_
    refine k_V (wr := []) 2 gw_1803 gw_1804 gw_1805 gw_15 gw_1806 hd_X12_mark hC hw (c_X12_mark_3_0 γ l z z2 z10 z11 z12 z13 z14 z15 z16 z17 z18 z19 z22 z23 z24 z25 z26 z27 z28 z29 z30 z31 z32 z33 z36 z37 z38 z39 z40 z41 z42 z43 z44 z45 z46 z47 z48 z55 z56 z59 z60 z61 (fun _ => 0) (fun _ => 0)) ⟨by decide, by decide⟩ ⟨by decide, by decide⟩ hl.1 rfl 0 rfl rfl rfl (Nat.le_of_ble_eq_true rfl) [0, 1, 2, 3, 4, 5, 6, 7, 8, 9, 10] [] rfl rfl rfl rfl (by decide) dL_law_1337 (fun r w1 H locs hq hw => ?_)
    obtain ⟨rfl, rfl⟩ := hq
    have hw : kW γ A [] s H locs := hw
    refine W.eq (g2 := F0 m 1340 ls [.int 1, .int 1]) rfl ?_
    refine lv_icmp_eq (tgt := 1370) hx hb dL_law_1340 (by decide) (fun _ => ?_) (fun h => absurd (by decide) h)
    exact law_end hC hr hlocks hX hbl hbA hAs hl9 _ _ (kW.sub hw [] rfl rfl) (by decide) (by decide) _ (lv_sub hl [0, 4] rfl)
  · refine lv_iconst (v := 1) hx hb dL_law_1308 (by decide) ?_
    refine lv_goto (tgt := 1313) hx hb dL_law_1309 (by decide) ?_
    refine k_V (wr := [(z, .inr (11, [.int 0, .int 0, .ref z2, .int 0, .int 0, .int 0, .int 0, .long 0, .int 0, .int 0, .ref z10, .ref z11, .ref z12, .ref z13, .ref z14, .ref z15, .ref z16, .ref z17, .ref z18, .ref z19, .int 0, .int 0, .ref z22, .ref z23, .ref z24, .ref z25, .ref z26, .ref z27, .ref z28, .ref z29, .ref z30, .ref z31, .ref z32, .ref z33, .int 0, .long 0, .ref z36, .ref z37, .ref z38, .ref z39, .ref z40, .ref z41, .ref z42, .ref z43, .ref z44, .ref z45, .ref z46, .ref z47, .ref z48, .int 0, .int 10, .int 0, .int 0, .int 0, .int 0, .ref z55, .ref z56, .int 0, .int 0, .ref z59, .ref z60, .ref z61, .int 0, .long 0])), (mds, .inr (7, [.ref mds_l, .ref mds_c, .ref mds_g, .ref mds_r, .ref mds_k, .ref mds_b, .int 0, .int 0, .int 0])), (mds_l, .inl (γ.2.1 0, 5, .inl fmds_l)), (mds_c, .inl (γ.2.1 0, 5, .inl fmds_c)), (mds_g, .inl (γ.2.1 0, 5, .inl fmds_g)), (mds_r, .inl (γ.2.1 1, 5, .inr (.inl fmds_r))), (mds_k, .inl (γ.2.1 0, 40, .inl fmds_k)), (mds_b, .inl (γ.2.1 0, 8, .inl fmds_b)), (mdy, .inl (γ.2.1 0, 40, .inl fmdy)), (mdq, .inl (γ.2.1 0, 8, .inl fmdq)), (x2, .inr (3, [.ref x2s, .ref x2y, .ref x2q, .int 0, .int 0, .int 0])), (x2s, .inr (7, [.ref x2s_l, .ref x2s_c, .ref x2s_g, .ref x2s_r, .ref x2s_k, .ref x2s_b, .int 0, .int 0, .int 0])), (x2s_l, .inl (γ.2.1 0, 5, .inl fx2s_l)), (x2s_c, .inl (γ.2.1 0, 5, .inl fx2s_c)), (x2s_g, .inl (γ.2.1 0, 5, .inl fx2s_g)), (x2s_r, .inl (γ.2.1 1, 5, .inr (.inl fx2s_r))), (x2s_k, .inl (γ.2.1 0, 40, .inl fx2s_k)), (x2s_b, .inl (γ.2.1 0, 8, .inl fx2s_b)), (x2y, .inl (γ.2.1 0, 40, .inl fx2y)), (x2q, .inl (γ.2.1 0, 8, .inl fx2q)), (z48, .inl (γ.2.1 3, 4, .inl (fun _ => 0))), (z36, .inl (γ.2.1 0, 6, .inl (fun _ => 0))), (z37, .inl (γ.2.1 0, 240, .inl (fun _ => 0))), (z38, .inl (γ.2.1 0, 240, .inl (fun _ => 0))), (z39, .inl (γ.2.1 0, 240, .inl (fun _ => 0))), (z40, .inl (γ.2.1 0, 5, .inl (fun _ => 0))), (z41, .inl (γ.2.1 0, 40, .inl (fun _ => 0))), (z42, .inl (γ.2.1 3, 40, .inl (fun _ => 0))), (z43, .inl (γ.2.1 0, 133, .inl (fun _ => 0))), (z46, .inl (γ.2.1 0, 532, .inl (fun _ => 0)))]) 2 gw_847 gw_848 gw_849 gw_1 gw_850 hd_X11_mark hC hw (c_X11_mark_3_1 γ l x x0 x1 x2 x3 x4 x5 x6 x7 x8 x9 x10 fm md mds mdy mdq hm3) ⟨by decide, by decide⟩ ⟨by decide, by decide⟩ hl.1 rfl 0 rfl rfl rfl (Nat.le_of_ble_eq_true rfl) [0, 2, 3] [1, 4, 5, 6, 7, 8, 9, 10, 11, 12, 13, 14, 15, 16, 17, 18, 19, 20, 21, 22, 23, 24, 25, 26, 27, 28, 29, 30, 31, 32] rfl rfl rfl rfl (by decide) dL_law_1313 (fun r w1 H locs hq hw => ?_)
    obtain ⟨rfl, rfl⟩ := hq
    have hw : kW γ A [(z, .inr (11, [.int 0, .int 0, .ref z2, .int 0, .int 0, .int 0, .int 0, .long 0, .int 0, .int 0, .ref z10, .ref z11, .ref z12, .ref z13, .ref z14, .ref z15, .ref z16, .ref z17, .ref z18, .ref z19, .int 0, .int 0, .ref z22, .ref z23, .ref z24, .ref z25, .ref z26, .ref z27, .ref z28, .ref z29, .ref z30, .ref z31, .ref z32, .ref z33, .int 0, .long 0, .ref z36, .ref z37, .ref z38, .ref z39, .ref z40, .ref z41, .ref z42, .ref z43, .ref z44, .ref z45, .ref z46, .ref z47, .ref z48, .int 0, .int 10, .int 0, .int 0, .int 0, .int 0, .ref z55, .ref z56, .int 0, .int 0, .ref z59, .ref z60, .ref z61, .int 0, .long 0])), (mds, .inr (7, [.ref mds_l, .ref mds_c, .ref mds_g, .ref mds_r, .ref mds_k, .ref mds_b, .int 0, .int 0, .int 0])), (mds_l, .inl (γ.2.1 0, 5, .inl fmds_l)), (mds_c, .inl (γ.2.1 0, 5, .inl fmds_c)), (mds_g, .inl (γ.2.1 0, 5, .inl fmds_g)), (mds_r, .inl (γ.2.1 1, 5, .inr (.inl fmds_r))), (mds_k, .inl (γ.2.1 0, 40, .inl fmds_k)), (mds_b, .inl (γ.2.1 0, 8, .inl fmds_b)), (mdy, .inl (γ.2.1 0, 40, .inl fmdy)), (mdq, .inl (γ.2.1 0, 8, .inl fmdq)), (x2, .inr (3, [.ref x2s, .ref x2y, .ref x2q, .int 0, .int 0, .int 0])), (x2s, .inr (7, [.ref x2s_l, .ref x2s_c, .ref x2s_g, .ref x2s_r, .ref x2s_k, .ref x2s_b, .int 0, .int 0, .int 0])), (x2s_l, .inl (γ.2.1 0, 5, .inl fx2s_l)), (x2s_c, .inl (γ.2.1 0, 5, .inl fx2s_c)), (x2s_g, .inl (γ.2.1 0, 5, .inl fx2s_g)), (x2s_r, .inl (γ.2.1 1, 5, .inr (.inl fx2s_r))), (x2s_k, .inl (γ.2.1 0, 40, .inl fx2s_k)), (x2s_b, .inl (γ.2.1 0, 8, .inl fx2s_b)), (x2y, .inl (γ.2.1 0, 40, .inl fx2y)), (x2q, .inl (γ.2.1 0, 8, .inl fx2q)), (z48, .inl (γ.2.1 3, 4, .inl (fun _ => 0))), (z36, .inl (γ.2.1 0, 6, .inl (fun _ => 0))), (z37, .inl (γ.2.1 0, 240, .inl (fun _ => 0))), (z38, .inl (γ.2.1 0, 240, .inl (fun _ => 0))), (z39, .inl (γ.2.1 0, 240, .inl (fun _ => 0))), (z40, .inl (γ.2.1 0, 5, .inl (fun _ => 0))), (z41, .inl (γ.2.1 0, 40, .inl (fun _ => 0))), (z42, .inl (γ.2.1 3, 40, .inl (fun _ => 0))), (z43, .inl (γ.2.1 0, 133, .inl (fun _ => 0))), (z46, .inl (γ.2.1 0, 532, .inl (fun _ => 0)))] s H locs := hw
    refine W.eq (g2 := F0 m 1316 ls [.int 0]) rfl ?_
    refine lv_aload_n hx hb dL_law_1316 rfl (lv_at hl 2 rfl) ?_
    refine lv_aload_n hx hb dL_law_1317 rfl (lv_at hl 4 rfl) ?_
    refine lv_iload hx hb dL_law_1318 (lv_at hl 0 rfl) ?_
    refine lv_iconst (v := 1) hx hb dL_law_1320 (by decide) ?_
    refine lv_iadd hx hb dL_law_1321 ?_
    refine lv_topi (fun x_2437 ex_2437 => ?_)
    obtain rfl : x_2437 = 1 := ex_2437.trans (by decide)
    refine va_sld hx hb hX hbl hbA hw.2.2 (k_in0 (by decide)) dL_law_1322 ?_
    refine lv_topi (fun x_2438 ex_2438 => ?_)
    obtain rfl : x_2438 = 3 := (show x_2438 = xs 1 from ex_2438).trans hv
    refine lv_aload_n hx hb dL_law_1323 rfl (lv_at hl 4 rfl) ?_
    refine lv_iload hx hb dL_law_1324 (lv_at hl 0 rfl) ?_
    refine lv_iconst (v := 2) hx hb dL_law_1326 (by decide) ?_
    refine lv_iadd hx hb dL_law_1327 ?_
    refine lv_topi (fun x_2439 ex_2439 => ?_)
    obtain rfl : x_2439 = 2 := ex_2439.trans (by decide)
    refine va_sld hx hb hX hbl hbA hw.2.2 (k_in0 (by decide)) dL_law_1328 ?_
    refine lv_topi (fun x_2440 ex_2440 => ?_)
    obtain rfl : x_2440 = xs 2 := ex_2440
    refine lv_if_eq (tgt := 1336) hx hb dL_law_1329 (by decide) (fun h => absurd h c_2432) (fun _ => ?_)
    refine lv_iconst (v := 1) hx hb dL_law_1332 (by decide) ?_
    refine lv_goto (tgt := 1337) hx hb dL_law_1333 (by decide) ?_
    refine k_V (wr := [(mds, .inr (7, [.ref mds_l, .ref mds_c, .ref mds_g, .ref mds_r, .ref mds_k, .ref mds_b, .int 0, .int 0, .int 0])), (mds_l, .inl (γ.2.1 0, 5, .inl fmds_l)), (mds_c, .inl (γ.2.1 0, 5, .inl fmds_c)), (mds_g, .inl (γ.2.1 0, 5, .inl fmds_g)), (mds_r, .inl (γ.2.1 1, 5, .inr (.inl fmds_r))), (mds_k, .inl (γ.2.1 0, 40, .inl fmds_k)), (mds_b, .inl (γ.2.1 0, 8, .inl fmds_b)), (mdy, .inl (γ.2.1 0, 40, .inl fmdy)), (mdq, .inl (γ.2.1 0, 8, .inl fmdq)), (x2, .inr (3, [.ref x2s, .ref x2y, .ref x2q, .int 0, .int 0, .int 0])), (x2s, .inr (7, [.ref x2s_l, .ref x2s_c, .ref x2s_g, .ref x2s_r, .ref x2s_k, .ref x2s_b, .int 0, .int 0, .int 0])), (x2s_l, .inl (γ.2.1 0, 5, .inl fx2s_l)), (x2s_c, .inl (γ.2.1 0, 5, .inl fx2s_c)), (x2s_g, .inl (γ.2.1 0, 5, .inl fx2s_g)), (x2s_r, .inl (γ.2.1 1, 5, .inr (.inl fx2s_r))), (x2s_k, .inl (γ.2.1 0, 40, .inl fx2s_k)), (x2s_b, .inl (γ.2.1 0, 8, .inl fx2s_b)), (x2y, .inl (γ.2.1 0, 40, .inl fx2y)), (x2q, .inl (γ.2.1 0, 8, .inl fx2q)), (z36, .inl (γ.2.1 0, 6, .inl (fun _ => 0))), (z37, .inl (γ.2.1 0, 240, .inl (fun _ => 0))), (z38, .inl (γ.2.1 0, 240, .inl (fun _ => 0))), (z39, .inl (γ.2.1 0, 240, .inl (fun _ => 0))), (z40, .inl (γ.2.1 0, 5, .inl (fun _ => 0))), (z41, .inl (γ.2.1 0, 40, .inl (fun _ => 0))), (z42, .inl (γ.2.1 3, 40, .inl (fun _ => 0))), (z43, .inl (γ.2.1 0, 133, .inl (fun _ => 0))), (z46, .inl (γ.2.1 0, 532, .inl (fun _ => 0)))]) 2 gw_1803 gw_1804 gw_1805 gw_15 gw_1806 hd_X12_mark hC hw (c_X12_mark_3_1 γ l z z2 z10 z11 z12 z13 z14 z15 z16 z17 z18 z19 z22 z23 z24 z25 z26 z27 z28 z29 z30 z31 z32 z33 z36 z37 z38 z39 z40 z41 z42 z43 z44 z45 z46 z47 z48 z55 z56 z59 z60 z61) ⟨by decide, by decide⟩ ⟨by decide, by decide⟩ hl.1 rfl 0 rfl rfl rfl (Nat.le_of_ble_eq_true rfl) [0, 20] [1, 2, 3, 4, 5, 6, 7, 8, 9, 10, 11, 12, 13, 14, 15, 16, 17, 18, 19, 21, 22, 23, 24, 25, 26, 27, 28, 29] rfl rfl rfl rfl (by decide) dL_law_1337 (fun r w1 H locs hq hw => ?_)
    obtain ⟨rfl, rfl⟩ := hq
    have hw : kW γ A [(mds, .inr (7, [.ref mds_l, .ref mds_c, .ref mds_g, .ref mds_r, .ref mds_k, .ref mds_b, .int 0, .int 0, .int 0])), (mds_l, .inl (γ.2.1 0, 5, .inl fmds_l)), (mds_c, .inl (γ.2.1 0, 5, .inl fmds_c)), (mds_g, .inl (γ.2.1 0, 5, .inl fmds_g)), (mds_r, .inl (γ.2.1 1, 5, .inr (.inl fmds_r))), (mds_k, .inl (γ.2.1 0, 40, .inl fmds_k)), (mds_b, .inl (γ.2.1 0, 8, .inl fmds_b)), (mdy, .inl (γ.2.1 0, 40, .inl fmdy)), (mdq, .inl (γ.2.1 0, 8, .inl fmdq)), (x2, .inr (3, [.ref x2s, .ref x2y, .ref x2q, .int 0, .int 0, .int 0])), (x2s, .inr (7, [.ref x2s_l, .ref x2s_c, .ref x2s_g, .ref x2s_r, .ref x2s_k, .ref x2s_b, .int 0, .int 0, .int 0])), (x2s_l, .inl (γ.2.1 0, 5, .inl fx2s_l)), (x2s_c, .inl (γ.2.1 0, 5, .inl fx2s_c)), (x2s_g, .inl (γ.2.1 0, 5, .inl fx2s_g)), (x2s_r, .inl (γ.2.1 1, 5, .inr (.inl fx2s_r))), (x2s_k, .inl (γ.2.1 0, 40, .inl fx2s_k)), (x2s_b, .inl (γ.2.1 0, 8, .inl fx2s_b)), (x2y, .inl (γ.2.1 0, 40, .inl fx2y)), (x2q, .inl (γ.2.1 0, 8, .inl fx2q)), (z36, .inl (γ.2.1 0, 6, .inl (fun _ => 0))), (z37, .inl (γ.2.1 0, 240, .inl (fun _ => 0))), (z38, .inl (γ.2.1 0, 240, .inl (fun _ => 0))), (z39, .inl (γ.2.1 0, 240, .inl (fun _ => 0))), (z40, .inl (γ.2.1 0, 5, .inl (fun _ => 0))), (z41, .inl (γ.2.1 0, 40, .inl (fun _ => 0))), (z42, .inl (γ.2.1 3, 40, .inl (fun _ => 0))), (z43, .inl (γ.2.1 0, 133, .inl (fun _ => 0))), (z46, .inl (γ.2.1 0, 532, .inl (fun _ => 0)))] s H locs := hw
    refine W.eq (g2 := F0 m 1340 ls [.int 0, .int 0]) rfl ?_
    refine lv_icmp_eq (tgt := 1370) hx hb dL_law_1340 (by decide) (fun _ => ?_) (fun h => absurd (by decide) h)
    exact law_end hC hr hlocks hX hbl hbA hAs hl9 _ _ (kW.sub hw [] rfl rfl) (by decide) (by decide) _ (lv_sub hl [0, 4] rfl)

set_option maxHeartbeats 4000000 in
set_option maxRecDepth 100000 in
theorem lc_30_l {γ : kΓ} {l : Launch} {p : Program} {e : Env} {s : State} {m : MethodId} {below : List Frame} {meth : Method} {c : Code} {A : Nat → Prop} {b : Nat} {xs : Nat → Int32} (hC : kC γ p s m [Value.ref b].toArray c code 7 RL A) (hr : meth.sig.returnType = ret) (hlocks : meth.locks = false) (hX : va_X b 7 xs s s.heap) (hbl : b < s.heap.size) (hbA : ¬ A b) (hAs : ∀ q, A q → s.heap.size ≤ q) (hl9 : l.stackTraces = false) (x : Nat) (x0 : Nat) (x1 : Nat) (x2 : Nat) (x3 : Nat) (x4 : Nat) (x5 : Nat) (x6 : Nat) (x7 : Nat) (x8 : Nat) (x9 : Nat) (x10 : Nat) (z : Nat) (z2 : Nat) (z10 : Nat) (z11 : Nat) (z12 : Nat) (z13 : Nat) (z14 : Nat) (z15 : Nat) (z16 : Nat) (z17 : Nat) (z18 : Nat) (z19 : Nat) (z22 : Nat) (z23 : Nat) (z24 : Nat) (z25 : Nat) (z26 : Nat) (z27 : Nat) (z28 : Nat) (z29 : Nat) (z30 : Nat) (z31 : Nat) (z32 : Nat) (z33 : Nat) (z36 : Nat) (z37 : Nat) (z38 : Nat) (z39 : Nat) (z40 : Nat) (z41 : Nat) (z42 : Nat) (z43 : Nat) (z44 : Nat) (z45 : Nat) (z46 : Nat) (z47 : Nat) (z48 : Nat) (z55 : Nat) (z56 : Nat) (z59 : Nat) (z60 : Nat) (z61 : Nat) (ou : Nat) (h1 : xs 1 < 0) (H : Heap) (locs : List Loc) (hw : kW γ A [(x, .inr (10, [.ref x0, .ref x1, .ref x2, .ref x3, .ref x4, .ref x5, .ref x6, .ref x7, .ref x8, .ref x9, .ref x10])), (z, .inr (11, [.int 0, .int 0, .ref z2, .int 0, .int 0, .int 0, .int 0, .long 0, .int 0, .int 0, .ref z10, .ref z11, .ref z12, .ref z13, .ref z14, .ref z15, .ref z16, .ref z17, .ref z18, .ref z19, .int 0, .int 0, .ref z22, .ref z23, .ref z24, .ref z25, .ref z26, .ref z27, .ref z28, .ref z29, .ref z30, .ref z31, .ref z32, .ref z33, .int 0, .long 0, .ref z36, .ref z37, .ref z38, .ref z39, .ref z40, .ref z41, .ref z42, .ref z43, .ref z44, .ref z45, .ref z46, .ref z47, .ref z48, .int 0, .int 10, .int 0, .int 0, .int 0, .int 0, .ref z55, .ref z56, .int 0, .int 0, .ref z59, .ref z60, .ref z61, .int 0, .long 0]))] s H locs) (ls : Array Slot) (hl : lv_has ls 7 [(4, .int 0), (3, .ref ou), (2, .ref z), (1, .ref x), (0, .ref b)]) : W p l e room_1 s m [Value.ref b].toArray below meth c H locs 251 13922 (lw_Z below #[Value.ref b] s) (F0 m 1292 ls []) := by
  have hx := hC.1
  have hb := hC.2.1
  refine lv_aload_n hx hb dL_law_1292 rfl (lv_at hl 3 rfl) ?_
  refine lv_aload_n hx hb dL_law_1293 rfl (lv_at hl 4 rfl) ?_
  refine lv_iload hx hb dL_law_1294 (lv_at hl 0 rfl) ?_
  refine lv_iconst (v := 1) hx hb dL_law_1296 (by decide) ?_
  refine lv_iadd hx hb dL_law_1297 ?_
  refine lv_topi (fun x_2441 ex_2441 => ?_)
  obtain rfl : x_2441 = 1 := ex_2441.trans (by decide)
  refine va_sld hx hb hX hbl hbA hw.2.2 (k_in0 (by decide)) dL_law_1298 ?_
  refine lv_topi (fun x_2442 ex_2442 => ?_)
  obtain rfl : x_2442 = xs 1 := ex_2442
  refine lv_aload_n hx hb dL_law_1299 rfl (lv_at hl 4 rfl) ?_
  refine lv_iload hx hb dL_law_1300 (lv_at hl 0 rfl) ?_
  refine lv_iconst (v := 2) hx hb dL_law_1302 (by decide) ?_
  refine lv_iadd hx hb dL_law_1303 ?_
  refine lv_topi (fun x_2443 ex_2443 => ?_)
  obtain rfl : x_2443 = 2 := ex_2443.trans (by decide)
  refine va_sld hx hb hX hbl hbA hw.2.2 (k_in0 (by decide)) dL_law_1304 ?_
  refine lv_topi (fun x_2444 ex_2444 => ?_)
  obtain rfl : x_2444 = xs 2 := ex_2444
  refine lv_if_eq (tgt := 1312) hx hb dL_law_1305 (by decide) (fun c_2445 => ?_) (fun c_2445 => ?_)
  · refine lv_iconst (v := 0) hx hb dL_law_1312 (by decide) ?_
    refine k_V (wr := [(z, .inr (11, [.int 0, .int 0, .ref z2, .int 0, .int 0, .int 0, .int 0, .long 0, .int 0, .int 0, .ref z10, .ref z11, .ref z12, .ref z13, .ref z14, .ref z15, .ref z16, .ref z17, .ref z18, .ref z19, .int 0, .int 0, .ref z22, .ref z23, .ref z24, .ref z25, .ref z26, .ref z27, .ref z28, .ref z29, .ref z30, .ref z31, .ref z32, .ref z33, .int 0, .long 0, .ref z36, .ref z37, .ref z38, .ref z39, .ref z40, .ref z41, .ref z42, .ref z43, .ref z44, .ref z45, .ref z46, .ref z47, .ref z48, .int 0, .int 10, .int 0, .int 0, .int 0, .int 0, .ref z55, .ref z56, .int 0, .int 0, .ref z59, .ref z60, .ref z61, .int 0, .long 0]))]) 2 gw_847 gw_848 gw_849 gw_1 gw_850 hd_X11_mark hC hw (c_X11_mark_lo γ l x x0 x1 x2 x3 x4 x5 x6 x7 x8 x9 x10 (xs 1) 0 h1) ⟨by decide, by decide⟩ ⟨by decide, by decide⟩ hl.1 rfl 0 rfl rfl rfl (Nat.le_of_ble_eq_true rfl) [0] [1] rfl rfl rfl rfl (by decide) dL_law_1313 (fun r w1 H locs hq hw => ?_)
    obtain ⟨rfl, rfl⟩ := hq
    have hw : kW γ A [(z, .inr (11, [.int 0, .int 0, .ref z2, .int 0, .int 0, .int 0, .int 0, .long 0, .int 0, .int 0, .ref z10, .ref z11, .ref z12, .ref z13, .ref z14, .ref z15, .ref z16, .ref z17, .ref z18, .ref z19, .int 0, .int 0, .ref z22, .ref z23, .ref z24, .ref z25, .ref z26, .ref z27, .ref z28, .ref z29, .ref z30, .ref z31, .ref z32, .ref z33, .int 0, .long 0, .ref z36, .ref z37, .ref z38, .ref z39, .ref z40, .ref z41, .ref z42, .ref z43, .ref z44, .ref z45, .ref z46, .ref z47, .ref z48, .int 0, .int 10, .int 0, .int 0, .int 0, .int 0, .ref z55, .ref z56, .int 0, .int 0, .ref z59, .ref z60, .ref z61, .int 0, .long 0]))] s H locs := hw
    refine W.eq (g2 := F0 m 1316 ls [.int 0]) rfl ?_
    refine lv_aload_n hx hb dL_law_1316 rfl (lv_at hl 2 rfl) ?_
    refine lv_aload_n hx hb dL_law_1317 rfl (lv_at hl 4 rfl) ?_
    refine lv_iload hx hb dL_law_1318 (lv_at hl 0 rfl) ?_
    refine lv_iconst (v := 1) hx hb dL_law_1320 (by decide) ?_
    refine lv_iadd hx hb dL_law_1321 ?_
    refine lv_topi (fun x_2446 ex_2446 => ?_)
    obtain rfl : x_2446 = 1 := ex_2446.trans (by decide)
    refine va_sld hx hb hX hbl hbA hw.2.2 (k_in0 (by decide)) dL_law_1322 ?_
    refine lv_topi (fun x_2447 ex_2447 => ?_)
    obtain rfl : x_2447 = xs 1 := ex_2447
    refine lv_aload_n hx hb dL_law_1323 rfl (lv_at hl 4 rfl) ?_
    refine lv_iload hx hb dL_law_1324 (lv_at hl 0 rfl) ?_
    refine lv_iconst (v := 2) hx hb dL_law_1326 (by decide) ?_
    refine lv_iadd hx hb dL_law_1327 ?_
    refine lv_topi (fun x_2448 ex_2448 => ?_)
    obtain rfl : x_2448 = 2 := ex_2448.trans (by decide)
    refine va_sld hx hb hX hbl hbA hw.2.2 (k_in0 (by decide)) dL_law_1328 ?_
    refine lv_topi (fun x_2449 ex_2449 => ?_)
    obtain rfl : x_2449 = xs 2 := ex_2449
    refine lv_if_eq (tgt := 1336) hx hb dL_law_1329 (by decide) (fun _ => ?_) (fun h => absurd c_2445 h)
    refine lv_iconst (v := 0) hx hb dL_law_1336 (by decide) ?_
    refine k_V (wr := []) 2 gw_1803 gw_1804 gw_1805 gw_15 gw_1806 hd_X12_mark hC hw (c_X12_mark_l γ l z z2 z10 z11 z12 z13 z14 z15 z16 z17 z18 z19 z22 z23 z24 z25 z26 z27 z28 z29 z30 z31 z32 z33 z36 z37 z38 z39 z40 z41 z42 z43 z44 z45 z46 z47 z48 z55 z56 z59 z60 z61 (xs 1) 0 h1) ⟨by decide, by decide⟩ ⟨by decide, by decide⟩ hl.1 rfl 0 rfl rfl rfl (Nat.le_of_ble_eq_true rfl) [0] [] rfl rfl rfl rfl (by decide) dL_law_1337 (fun r w1 H locs hq hw => ?_)
    obtain ⟨rfl, rfl⟩ := hq
    have hw : kW γ A [] s H locs := hw
    refine W.eq (g2 := F0 m 1340 ls [.int 0, .int 0]) rfl ?_
    refine lv_icmp_eq (tgt := 1370) hx hb dL_law_1340 (by decide) (fun _ => ?_) (fun h => absurd (by decide) h)
    exact law_end hC hr hlocks hX hbl hbA hAs hl9 _ _ (kW.sub hw [] rfl rfl) (by decide) (by decide) _ (lv_sub hl [0, 4] rfl)
  · refine lv_iconst (v := 1) hx hb dL_law_1308 (by decide) ?_
    refine lv_goto (tgt := 1313) hx hb dL_law_1309 (by decide) ?_
    refine k_V (wr := [(z, .inr (11, [.int 0, .int 0, .ref z2, .int 0, .int 0, .int 0, .int 0, .long 0, .int 0, .int 0, .ref z10, .ref z11, .ref z12, .ref z13, .ref z14, .ref z15, .ref z16, .ref z17, .ref z18, .ref z19, .int 0, .int 0, .ref z22, .ref z23, .ref z24, .ref z25, .ref z26, .ref z27, .ref z28, .ref z29, .ref z30, .ref z31, .ref z32, .ref z33, .int 0, .long 0, .ref z36, .ref z37, .ref z38, .ref z39, .ref z40, .ref z41, .ref z42, .ref z43, .ref z44, .ref z45, .ref z46, .ref z47, .ref z48, .int 0, .int 10, .int 0, .int 0, .int 0, .int 0, .ref z55, .ref z56, .int 0, .int 0, .ref z59, .ref z60, .ref z61, .int 0, .long 0]))]) 2 gw_847 gw_848 gw_849 gw_1 gw_850 hd_X11_mark hC hw (c_X11_mark_lo γ l x x0 x1 x2 x3 x4 x5 x6 x7 x8 x9 x10 (xs 1) 1 h1) ⟨by decide, by decide⟩ ⟨by decide, by decide⟩ hl.1 rfl 0 rfl rfl rfl (Nat.le_of_ble_eq_true rfl) [0] [1] rfl rfl rfl rfl (by decide) dL_law_1313 (fun r w1 H locs hq hw => ?_)
    obtain ⟨rfl, rfl⟩ := hq
    have hw : kW γ A [(z, .inr (11, [.int 0, .int 0, .ref z2, .int 0, .int 0, .int 0, .int 0, .long 0, .int 0, .int 0, .ref z10, .ref z11, .ref z12, .ref z13, .ref z14, .ref z15, .ref z16, .ref z17, .ref z18, .ref z19, .int 0, .int 0, .ref z22, .ref z23, .ref z24, .ref z25, .ref z26, .ref z27, .ref z28, .ref z29, .ref z30, .ref z31, .ref z32, .ref z33, .int 0, .long 0, .ref z36, .ref z37, .ref z38, .ref z39, .ref z40, .ref z41, .ref z42, .ref z43, .ref z44, .ref z45, .ref z46, .ref z47, .ref z48, .int 0, .int 10, .int 0, .int 0, .int 0, .int 0, .ref z55, .ref z56, .int 0, .int 0, .ref z59, .ref z60, .ref z61, .int 0, .long 0]))] s H locs := hw
    refine W.eq (g2 := F0 m 1316 ls [.int 0]) rfl ?_
    refine lv_aload_n hx hb dL_law_1316 rfl (lv_at hl 2 rfl) ?_
    refine lv_aload_n hx hb dL_law_1317 rfl (lv_at hl 4 rfl) ?_
    refine lv_iload hx hb dL_law_1318 (lv_at hl 0 rfl) ?_
    refine lv_iconst (v := 1) hx hb dL_law_1320 (by decide) ?_
    refine lv_iadd hx hb dL_law_1321 ?_
    refine lv_topi (fun x_2450 ex_2450 => ?_)
    obtain rfl : x_2450 = 1 := ex_2450.trans (by decide)
    refine va_sld hx hb hX hbl hbA hw.2.2 (k_in0 (by decide)) dL_law_1322 ?_
    refine lv_topi (fun x_2451 ex_2451 => ?_)
    obtain rfl : x_2451 = xs 1 := ex_2451
    refine lv_aload_n hx hb dL_law_1323 rfl (lv_at hl 4 rfl) ?_
    refine lv_iload hx hb dL_law_1324 (lv_at hl 0 rfl) ?_
    refine lv_iconst (v := 2) hx hb dL_law_1326 (by decide) ?_
    refine lv_iadd hx hb dL_law_1327 ?_
    refine lv_topi (fun x_2452 ex_2452 => ?_)
    obtain rfl : x_2452 = 2 := ex_2452.trans (by decide)
    refine va_sld hx hb hX hbl hbA hw.2.2 (k_in0 (by decide)) dL_law_1328 ?_
    refine lv_topi (fun x_2453 ex_2453 => ?_)
    obtain rfl : x_2453 = xs 2 := ex_2453
    refine lv_if_eq (tgt := 1336) hx hb dL_law_1329 (by decide) (fun h => absurd h c_2445) (fun _ => ?_)
    refine lv_iconst (v := 1) hx hb dL_law_1332 (by decide) ?_
    refine lv_goto (tgt := 1337) hx hb dL_law_1333 (by decide) ?_
    refine k_V (wr := []) 2 gw_1803 gw_1804 gw_1805 gw_15 gw_1806 hd_X12_mark hC hw (c_X12_mark_l γ l z z2 z10 z11 z12 z13 z14 z15 z16 z17 z18 z19 z22 z23 z24 z25 z26 z27 z28 z29 z30 z31 z32 z33 z36 z37 z38 z39 z40 z41 z42 z43 z44 z45 z46 z47 z48 z55 z56 z59 z60 z61 (xs 1) 1 h1) ⟨by decide, by decide⟩ ⟨by decide, by decide⟩ hl.1 rfl 0 rfl rfl rfl (Nat.le_of_ble_eq_true rfl) [0] [] rfl rfl rfl rfl (by decide) dL_law_1337 (fun r w1 H locs hq hw => ?_)
    obtain ⟨rfl, rfl⟩ := hq
    have hw : kW γ A [] s H locs := hw
    refine W.eq (g2 := F0 m 1340 ls [.int 0, .int 0]) rfl ?_
    refine lv_icmp_eq (tgt := 1370) hx hb dL_law_1340 (by decide) (fun _ => ?_) (fun h => absurd (by decide) h)
    exact law_end hC hr hlocks hX hbl hbA hAs hl9 _ _ (kW.sub hw [] rfl rfl) (by decide) (by decide) _ (lv_sub hl [0, 4] rfl)

set_option maxHeartbeats 4000000 in
set_option maxRecDepth 100000 in
theorem lc_30_h {γ : kΓ} {l : Launch} {p : Program} {e : Env} {s : State} {m : MethodId} {below : List Frame} {meth : Method} {c : Code} {A : Nat → Prop} {b : Nat} {xs : Nat → Int32} (hC : kC γ p s m [Value.ref b].toArray c code 7 RL A) (hr : meth.sig.returnType = ret) (hlocks : meth.locks = false) (hX : va_X b 7 xs s s.heap) (hbl : b < s.heap.size) (hbA : ¬ A b) (hAs : ∀ q, A q → s.heap.size ≤ q) (hl9 : l.stackTraces = false) (x : Nat) (x0 : Nat) (x1 : Nat) (x2 : Nat) (x3 : Nat) (x4 : Nat) (x5 : Nat) (x6 : Nat) (x7 : Nat) (x8 : Nat) (x9 : Nat) (x10 : Nat) (z : Nat) (z2 : Nat) (z10 : Nat) (z11 : Nat) (z12 : Nat) (z13 : Nat) (z14 : Nat) (z15 : Nat) (z16 : Nat) (z17 : Nat) (z18 : Nat) (z19 : Nat) (z22 : Nat) (z23 : Nat) (z24 : Nat) (z25 : Nat) (z26 : Nat) (z27 : Nat) (z28 : Nat) (z29 : Nat) (z30 : Nat) (z31 : Nat) (z32 : Nat) (z33 : Nat) (z36 : Nat) (z37 : Nat) (z38 : Nat) (z39 : Nat) (z40 : Nat) (z41 : Nat) (z42 : Nat) (z43 : Nat) (z44 : Nat) (z45 : Nat) (z46 : Nat) (z47 : Nat) (z48 : Nat) (z55 : Nat) (z56 : Nat) (z59 : Nat) (z60 : Nat) (z61 : Nat) (ou : Nat) (h1 : ¬ xs 1 < 0) (h2 : 3 < xs 1) (H : Heap) (locs : List Loc) (hw : kW γ A [(x, .inr (10, [.ref x0, .ref x1, .ref x2, .ref x3, .ref x4, .ref x5, .ref x6, .ref x7, .ref x8, .ref x9, .ref x10])), (z, .inr (11, [.int 0, .int 0, .ref z2, .int 0, .int 0, .int 0, .int 0, .long 0, .int 0, .int 0, .ref z10, .ref z11, .ref z12, .ref z13, .ref z14, .ref z15, .ref z16, .ref z17, .ref z18, .ref z19, .int 0, .int 0, .ref z22, .ref z23, .ref z24, .ref z25, .ref z26, .ref z27, .ref z28, .ref z29, .ref z30, .ref z31, .ref z32, .ref z33, .int 0, .long 0, .ref z36, .ref z37, .ref z38, .ref z39, .ref z40, .ref z41, .ref z42, .ref z43, .ref z44, .ref z45, .ref z46, .ref z47, .ref z48, .int 0, .int 10, .int 0, .int 0, .int 0, .int 0, .ref z55, .ref z56, .int 0, .int 0, .ref z59, .ref z60, .ref z61, .int 0, .long 0]))] s H locs) (ls : Array Slot) (hl : lv_has ls 7 [(4, .int 0), (3, .ref ou), (2, .ref z), (1, .ref x), (0, .ref b)]) : W p l e room_1 s m [Value.ref b].toArray below meth c H locs 251 13922 (lw_Z below #[Value.ref b] s) (F0 m 1292 ls []) := by
  have hx := hC.1
  have hb := hC.2.1
  refine lv_aload_n hx hb dL_law_1292 rfl (lv_at hl 3 rfl) ?_
  refine lv_aload_n hx hb dL_law_1293 rfl (lv_at hl 4 rfl) ?_
  refine lv_iload hx hb dL_law_1294 (lv_at hl 0 rfl) ?_
  refine lv_iconst (v := 1) hx hb dL_law_1296 (by decide) ?_
  refine lv_iadd hx hb dL_law_1297 ?_
  refine lv_topi (fun x_2454 ex_2454 => ?_)
  obtain rfl : x_2454 = 1 := ex_2454.trans (by decide)
  refine va_sld hx hb hX hbl hbA hw.2.2 (k_in0 (by decide)) dL_law_1298 ?_
  refine lv_topi (fun x_2455 ex_2455 => ?_)
  obtain rfl : x_2455 = xs 1 := ex_2455
  refine lv_aload_n hx hb dL_law_1299 rfl (lv_at hl 4 rfl) ?_
  refine lv_iload hx hb dL_law_1300 (lv_at hl 0 rfl) ?_
  refine lv_iconst (v := 2) hx hb dL_law_1302 (by decide) ?_
  refine lv_iadd hx hb dL_law_1303 ?_
  refine lv_topi (fun x_2456 ex_2456 => ?_)
  obtain rfl : x_2456 = 2 := ex_2456.trans (by decide)
  refine va_sld hx hb hX hbl hbA hw.2.2 (k_in0 (by decide)) dL_law_1304 ?_
  refine lv_topi (fun x_2457 ex_2457 => ?_)
  obtain rfl : x_2457 = xs 2 := ex_2457
  refine lv_if_eq (tgt := 1312) hx hb dL_law_1305 (by decide) (fun c_2458 => ?_) (fun c_2458 => ?_)
  · refine lv_iconst (v := 0) hx hb dL_law_1312 (by decide) ?_
    refine k_V (wr := [(z, .inr (11, [.int 0, .int 0, .ref z2, .int 0, .int 0, .int 0, .int 0, .long 0, .int 0, .int 0, .ref z10, .ref z11, .ref z12, .ref z13, .ref z14, .ref z15, .ref z16, .ref z17, .ref z18, .ref z19, .int 0, .int 0, .ref z22, .ref z23, .ref z24, .ref z25, .ref z26, .ref z27, .ref z28, .ref z29, .ref z30, .ref z31, .ref z32, .ref z33, .int 0, .long 0, .ref z36, .ref z37, .ref z38, .ref z39, .ref z40, .ref z41, .ref z42, .ref z43, .ref z44, .ref z45, .ref z46, .ref z47, .ref z48, .int 0, .int 10, .int 0, .int 0, .int 0, .int 0, .ref z55, .ref z56, .int 0, .int 0, .ref z59, .ref z60, .ref z61, .int 0, .long 0]))]) 2 gw_847 gw_848 gw_849 gw_1 gw_850 hd_X11_mark hC hw (c_X11_mark_hi γ l x x0 x1 x2 x3 x4 x5 x6 x7 x8 x9 x10 (xs 1) 0 h1 (Int32.not_lt.mpr (k_le_succ h2))) ⟨by decide, by decide⟩ ⟨by decide, by decide⟩ hl.1 rfl 0 rfl rfl rfl (Nat.le_of_ble_eq_true rfl) [0] [1] rfl rfl rfl rfl (by decide) dL_law_1313 (fun r w1 H locs hq hw => ?_)
    obtain ⟨rfl, rfl⟩ := hq
    have hw : kW γ A [(z, .inr (11, [.int 0, .int 0, .ref z2, .int 0, .int 0, .int 0, .int 0, .long 0, .int 0, .int 0, .ref z10, .ref z11, .ref z12, .ref z13, .ref z14, .ref z15, .ref z16, .ref z17, .ref z18, .ref z19, .int 0, .int 0, .ref z22, .ref z23, .ref z24, .ref z25, .ref z26, .ref z27, .ref z28, .ref z29, .ref z30, .ref z31, .ref z32, .ref z33, .int 0, .long 0, .ref z36, .ref z37, .ref z38, .ref z39, .ref z40, .ref z41, .ref z42, .ref z43, .ref z44, .ref z45, .ref z46, .ref z47, .ref z48, .int 0, .int 10, .int 0, .int 0, .int 0, .int 0, .ref z55, .ref z56, .int 0, .int 0, .ref z59, .ref z60, .ref z61, .int 0, .long 0]))] s H locs := hw
    refine W.eq (g2 := F0 m 1316 ls [.int 0]) rfl ?_
    refine lv_aload_n hx hb dL_law_1316 rfl (lv_at hl 2 rfl) ?_
    refine lv_aload_n hx hb dL_law_1317 rfl (lv_at hl 4 rfl) ?_
    refine lv_iload hx hb dL_law_1318 (lv_at hl 0 rfl) ?_
    refine lv_iconst (v := 1) hx hb dL_law_1320 (by decide) ?_
    refine lv_iadd hx hb dL_law_1321 ?_
    refine lv_topi (fun x_2459 ex_2459 => ?_)
    obtain rfl : x_2459 = 1 := ex_2459.trans (by decide)
    refine va_sld hx hb hX hbl hbA hw.2.2 (k_in0 (by decide)) dL_law_1322 ?_
    refine lv_topi (fun x_2460 ex_2460 => ?_)
    obtain rfl : x_2460 = xs 1 := ex_2460
    refine lv_aload_n hx hb dL_law_1323 rfl (lv_at hl 4 rfl) ?_
    refine lv_iload hx hb dL_law_1324 (lv_at hl 0 rfl) ?_
    refine lv_iconst (v := 2) hx hb dL_law_1326 (by decide) ?_
    refine lv_iadd hx hb dL_law_1327 ?_
    refine lv_topi (fun x_2461 ex_2461 => ?_)
    obtain rfl : x_2461 = 2 := ex_2461.trans (by decide)
    refine va_sld hx hb hX hbl hbA hw.2.2 (k_in0 (by decide)) dL_law_1328 ?_
    refine lv_topi (fun x_2462 ex_2462 => ?_)
    obtain rfl : x_2462 = xs 2 := ex_2462
    refine lv_if_eq (tgt := 1336) hx hb dL_law_1329 (by decide) (fun _ => ?_) (fun h => absurd c_2458 h)
    refine lv_iconst (v := 0) hx hb dL_law_1336 (by decide) ?_
    refine k_V (wr := []) 2 gw_1803 gw_1804 gw_1805 gw_15 gw_1806 hd_X12_mark hC hw (c_X12_mark_h γ l z z2 z10 z11 z12 z13 z14 z15 z16 z17 z18 z19 z22 z23 z24 z25 z26 z27 z28 z29 z30 z31 z32 z33 z36 z37 z38 z39 z40 z41 z42 z43 z44 z45 z46 z47 z48 z55 z56 z59 z60 z61 (xs 1) 0 h1 h2) ⟨by decide, by decide⟩ ⟨by decide, by decide⟩ hl.1 rfl 0 rfl rfl rfl (Nat.le_of_ble_eq_true rfl) [0] [] rfl rfl rfl rfl (by decide) dL_law_1337 (fun r w1 H locs hq hw => ?_)
    obtain ⟨rfl, rfl⟩ := hq
    have hw : kW γ A [] s H locs := hw
    refine W.eq (g2 := F0 m 1340 ls [.int 0, .int 0]) rfl ?_
    refine lv_icmp_eq (tgt := 1370) hx hb dL_law_1340 (by decide) (fun _ => ?_) (fun h => absurd (by decide) h)
    exact law_end hC hr hlocks hX hbl hbA hAs hl9 _ _ (kW.sub hw [] rfl rfl) (by decide) (by decide) _ (lv_sub hl [0, 4] rfl)
  · refine lv_iconst (v := 1) hx hb dL_law_1308 (by decide) ?_
    refine lv_goto (tgt := 1313) hx hb dL_law_1309 (by decide) ?_
    refine k_V (wr := [(z, .inr (11, [.int 0, .int 0, .ref z2, .int 0, .int 0, .int 0, .int 0, .long 0, .int 0, .int 0, .ref z10, .ref z11, .ref z12, .ref z13, .ref z14, .ref z15, .ref z16, .ref z17, .ref z18, .ref z19, .int 0, .int 0, .ref z22, .ref z23, .ref z24, .ref z25, .ref z26, .ref z27, .ref z28, .ref z29, .ref z30, .ref z31, .ref z32, .ref z33, .int 0, .long 0, .ref z36, .ref z37, .ref z38, .ref z39, .ref z40, .ref z41, .ref z42, .ref z43, .ref z44, .ref z45, .ref z46, .ref z47, .ref z48, .int 0, .int 10, .int 0, .int 0, .int 0, .int 0, .ref z55, .ref z56, .int 0, .int 0, .ref z59, .ref z60, .ref z61, .int 0, .long 0]))]) 2 gw_847 gw_848 gw_849 gw_1 gw_850 hd_X11_mark hC hw (c_X11_mark_hi γ l x x0 x1 x2 x3 x4 x5 x6 x7 x8 x9 x10 (xs 1) 1 h1 (Int32.not_lt.mpr (k_le_succ h2))) ⟨by decide, by decide⟩ ⟨by decide, by decide⟩ hl.1 rfl 0 rfl rfl rfl (Nat.le_of_ble_eq_true rfl) [0] [1] rfl rfl rfl rfl (by decide) dL_law_1313 (fun r w1 H locs hq hw => ?_)
    obtain ⟨rfl, rfl⟩ := hq
    have hw : kW γ A [(z, .inr (11, [.int 0, .int 0, .ref z2, .int 0, .int 0, .int 0, .int 0, .long 0, .int 0, .int 0, .ref z10, .ref z11, .ref z12, .ref z13, .ref z14, .ref z15, .ref z16, .ref z17, .ref z18, .ref z19, .int 0, .int 0, .ref z22, .ref z23, .ref z24, .ref z25, .ref z26, .ref z27, .ref z28, .ref z29, .ref z30, .ref z31, .ref z32, .ref z33, .int 0, .long 0, .ref z36, .ref z37, .ref z38, .ref z39, .ref z40, .ref z41, .ref z42, .ref z43, .ref z44, .ref z45, .ref z46, .ref z47, .ref z48, .int 0, .int 10, .int 0, .int 0, .int 0, .int 0, .ref z55, .ref z56, .int 0, .int 0, .ref z59, .ref z60, .ref z61, .int 0, .long 0]))] s H locs := hw
    refine W.eq (g2 := F0 m 1316 ls [.int 0]) rfl ?_
    refine lv_aload_n hx hb dL_law_1316 rfl (lv_at hl 2 rfl) ?_
    refine lv_aload_n hx hb dL_law_1317 rfl (lv_at hl 4 rfl) ?_
    refine lv_iload hx hb dL_law_1318 (lv_at hl 0 rfl) ?_
    refine lv_iconst (v := 1) hx hb dL_law_1320 (by decide) ?_
    refine lv_iadd hx hb dL_law_1321 ?_
    refine lv_topi (fun x_2463 ex_2463 => ?_)
    obtain rfl : x_2463 = 1 := ex_2463.trans (by decide)
    refine va_sld hx hb hX hbl hbA hw.2.2 (k_in0 (by decide)) dL_law_1322 ?_
    refine lv_topi (fun x_2464 ex_2464 => ?_)
    obtain rfl : x_2464 = xs 1 := ex_2464
    refine lv_aload_n hx hb dL_law_1323 rfl (lv_at hl 4 rfl) ?_
    refine lv_iload hx hb dL_law_1324 (lv_at hl 0 rfl) ?_
    refine lv_iconst (v := 2) hx hb dL_law_1326 (by decide) ?_
    refine lv_iadd hx hb dL_law_1327 ?_
    refine lv_topi (fun x_2465 ex_2465 => ?_)
    obtain rfl : x_2465 = 2 := ex_2465.trans (by decide)
    refine va_sld hx hb hX hbl hbA hw.2.2 (k_in0 (by decide)) dL_law_1328 ?_
    refine lv_topi (fun x_2466 ex_2466 => ?_)
    obtain rfl : x_2466 = xs 2 := ex_2466
    refine lv_if_eq (tgt := 1336) hx hb dL_law_1329 (by decide) (fun h => absurd h c_2458) (fun _ => ?_)
    refine lv_iconst (v := 1) hx hb dL_law_1332 (by decide) ?_
    refine lv_goto (tgt := 1337) hx hb dL_law_1333 (by decide) ?_
    refine k_V (wr := []) 2 gw_1803 gw_1804 gw_1805 gw_15 gw_1806 hd_X12_mark hC hw (c_X12_mark_h γ l z z2 z10 z11 z12 z13 z14 z15 z16 z17 z18 z19 z22 z23 z24 z25 z26 z27 z28 z29 z30 z31 z32 z33 z36 z37 z38 z39 z40 z41 z42 z43 z44 z45 z46 z47 z48 z55 z56 z59 z60 z61 (xs 1) 1 h1 h2) ⟨by decide, by decide⟩ ⟨by decide, by decide⟩ hl.1 rfl 0 rfl rfl rfl (Nat.le_of_ble_eq_true rfl) [0] [] rfl rfl rfl rfl (by decide) dL_law_1337 (fun r w1 H locs hq hw => ?_)
    obtain ⟨rfl, rfl⟩ := hq
    have hw : kW γ A [] s H locs := hw
    refine W.eq (g2 := F0 m 1340 ls [.int 0, .int 0]) rfl ?_
    refine lv_icmp_eq (tgt := 1370) hx hb dL_law_1340 (by decide) (fun _ => ?_) (fun h => absurd (by decide) h)
    exact law_end hC hr hlocks hX hbl hbA hAs hl9 _ _ (kW.sub hw [] rfl rfl) (by decide) (by decide) _ (lv_sub hl [0, 4] rfl)

set_option maxHeartbeats 4000000 in
set_option maxRecDepth 100000 in
theorem lc_31_0 {γ : kΓ} {l : Launch} {p : Program} {e : Env} {s : State} {m : MethodId} {below : List Frame} {meth : Method} {c : Code} {A : Nat → Prop} {b : Nat} {xs : Nat → Int32} (hC : kC γ p s m [Value.ref b].toArray c code 7 RL A) (hr : meth.sig.returnType = ret) (hlocks : meth.locks = false) (hX : va_X b 7 xs s s.heap) (hbl : b < s.heap.size) (hbA : ¬ A b) (hAs : ∀ q, A q → s.heap.size ≤ q) (hl9 : l.stackTraces = false) (x : Nat) (x0 : Nat) (x1 : Nat) (x2 : Nat) (x3 : Nat) (x4 : Nat) (x5 : Nat) (x6 : Nat) (x7 : Nat) (x8 : Nat) (x9 : Nat) (x10 : Nat) (z : Nat) (z2 : Nat) (z10 : Nat) (z11 : Nat) (z12 : Nat) (z13 : Nat) (z14 : Nat) (z15 : Nat) (z16 : Nat) (z17 : Nat) (z18 : Nat) (z19 : Nat) (z22 : Nat) (z23 : Nat) (z24 : Nat) (z25 : Nat) (z26 : Nat) (z27 : Nat) (z28 : Nat) (z29 : Nat) (z30 : Nat) (z31 : Nat) (z32 : Nat) (z33 : Nat) (z36 : Nat) (z37 : Nat) (z38 : Nat) (z39 : Nat) (z40 : Nat) (z41 : Nat) (z42 : Nat) (z43 : Nat) (z44 : Nat) (z45 : Nat) (z46 : Nat) (z47 : Nat) (z48 : Nat) (z55 : Nat) (z56 : Nat) (z59 : Nat) (z60 : Nat) (z61 : Nat) (x90 : Nat) (x91 : Nat) (x92 : Nat) (x93 : Nat) (x94 : Nat) (x95 : Nat) (x96 : Nat) (x97 : Nat) (fa : Nat → Int32) (ou : Nat) (ha0 : fa 0 = 0) (ha1 : fa 1 = 0) (ha2 : fa 2 = 10) (ha3 : fa 3 = 10) (ha4 : fa 4 = 3) (hv : xs 1 = 0) (H : Heap) (locs : List Loc) (hw : kW γ A [(x, .inr (10, [.ref x0, .ref x1, .ref x2, .ref x3, .ref x4, .ref x5, .ref x6, .ref x7, .ref x8, .ref x9, .ref x10])), (z, .inr (11, [.int 0, .int 0, .ref z2, .int 0, .int 0, .int 0, .int 0, .long 0, .int 0, .int 0, .ref z10, .ref z11, .ref z12, .ref z13, .ref z14, .ref z15, .ref z16, .ref z17, .ref z18, .ref z19, .int 0, .int 0, .ref z22, .ref z23, .ref z24, .ref z25, .ref z26, .ref z27, .ref z28, .ref z29, .ref z30, .ref z31, .ref z32, .ref z33, .int 0, .long 0, .ref z36, .ref z37, .ref z38, .ref z39, .ref z40, .ref z41, .ref z42, .ref z43, .ref z44, .ref z45, .ref z46, .ref z47, .ref z48, .int 0, .int 10, .int 0, .int 0, .int 0, .int 0, .ref z55, .ref z56, .int 0, .int 0, .ref z59, .ref z60, .ref z61, .int 0, .long 0])), (x9, .inr (0, [.ref x90, .ref x91, .ref x92, .ref x93, .ref x94, .ref x95, .ref x96, .ref x97, .int 0, .int 0, .int 10, .int 10, .int 3, .int 0, .int 0, .int 0, .int 0, .int 0, .int 0])), (z10, .inl (γ.2.1 0, 10, .inl fa))] s H locs) (ls : Array Slot) (hl : lv_has ls 7 [(4, .int 0), (3, .ref ou), (2, .ref z), (1, .ref x), (0, .ref b)]) : W p l e room_1 s m [Value.ref b].toArray below meth c H locs 251 13922 (lw_Z below #[Value.ref b] s) (F0 m 1345 ls []) := by
  have hx := hC.1
  have hb := hC.2.1
  refine lv_aload_n hx hb dL_law_1345 rfl (lv_at hl 3 rfl) ?_
  refine lv_aload_n hx hb dL_law_1346 rfl (lv_at hl 4 rfl) ?_
  refine lv_iload hx hb dL_law_1347 (lv_at hl 0 rfl) ?_
  refine lv_iconst (v := 1) hx hb dL_law_1349 (by decide) ?_
  refine lv_iadd hx hb dL_law_1350 ?_
  refine lv_topi (fun x_2467 ex_2467 => ?_)
  obtain rfl : x_2467 = 1 := ex_2467.trans (by decide)
  refine va_sld hx hb hX hbl hbA hw.2.2 (k_in0 (by decide)) dL_law_1351 ?_
  refine lv_topi (fun x_2468 ex_2468 => ?_)
  obtain rfl : x_2468 = 0 := (show x_2468 = xs 1 from ex_2468).trans hv
  refine k_V (wr := [(z, .inr (11, [.int 0, .int 0, .ref z2, .int 0, .int 0, .int 0, .int 0, .long 0, .int 0, .int 0, .ref z10, .ref z11, .ref z12, .ref z13, .ref z14, .ref z15, .ref z16, .ref z17, .ref z18, .ref z19, .int 0, .int 0, .ref z22, .ref z23, .ref z24, .ref z25, .ref z26, .ref z27, .ref z28, .ref z29, .ref z30, .ref z31, .ref z32, .ref z33, .int 0, .long 0, .ref z36, .ref z37, .ref z38, .ref z39, .ref z40, .ref z41, .ref z42, .ref z43, .ref z44, .ref z45, .ref z46, .ref z47, .ref z48, .int 0, .int 10, .int 0, .int 0, .int 0, .int 0, .ref z55, .ref z56, .int 0, .int 0, .ref z59, .ref z60, .ref z61, .int 0, .long 0])), (z10, .inl (γ.2.1 0, 10, .inl fa))]) 1 gw_739 gw_740 gw_741 gw_1 gw_742 hd_X11_count hC hw (c_X11_count_0 γ l x x0 x1 x2 x3 x4 x5 x6 x7 x8 x9 x10 x90 x91 x92 x93 x94 x95 x96 x97) ⟨by decide, by decide⟩ ⟨by decide, by decide⟩ hl.1 rfl 0 rfl rfl rfl (Nat.le_of_ble_eq_true rfl) [0, 2] [1, 3] rfl rfl rfl rfl (by decide) dL_law_1352 (fun r w1 H locs hq hw => ?_)
  obtain ⟨rfl, rfl⟩ := hq
  have hw : kW γ A [(z, .inr (11, [.int 0, .int 0, .ref z2, .int 0, .int 0, .int 0, .int 0, .long 0, .int 0, .int 0, .ref z10, .ref z11, .ref z12, .ref z13, .ref z14, .ref z15, .ref z16, .ref z17, .ref z18, .ref z19, .int 0, .int 0, .ref z22, .ref z23, .ref z24, .ref z25, .ref z26, .ref z27, .ref z28, .ref z29, .ref z30, .ref z31, .ref z32, .ref z33, .int 0, .long 0, .ref z36, .ref z37, .ref z38, .ref z39, .ref z40, .ref z41, .ref z42, .ref z43, .ref z44, .ref z45, .ref z46, .ref z47, .ref z48, .int 0, .int 10, .int 0, .int 0, .int 0, .int 0, .ref z55, .ref z56, .int 0, .int 0, .ref z59, .ref z60, .ref z61, .int 0, .long 0])), (z10, .inl (γ.2.1 0, 10, .inl fa))] s H locs := hw
  refine W.eq (g2 := F0 m 1355 ls [.int 0]) rfl ?_
  refine lv_aload_n hx hb dL_law_1355 rfl (lv_at hl 2 rfl) ?_
  refine lv_aload_n hx hb dL_law_1356 rfl (lv_at hl 4 rfl) ?_
  refine lv_iload hx hb dL_law_1357 (lv_at hl 0 rfl) ?_
  refine lv_iconst (v := 1) hx hb dL_law_1359 (by decide) ?_
  refine lv_iadd hx hb dL_law_1360 ?_
  refine lv_topi (fun x_2469 ex_2469 => ?_)
  obtain rfl : x_2469 = 1 := ex_2469.trans (by decide)
  refine va_sld hx hb hX hbl hbA hw.2.2 (k_in0 (by decide)) dL_law_1361 ?_
  refine lv_topi (fun x_2470 ex_2470 => ?_)
  obtain rfl : x_2470 = 0 := (show x_2470 = xs 1 from ex_2470).trans hv
  refine k_V (wr := []) 1 gw_1811 gw_1812 gw_1813 gw_15 gw_1814 hd_X12_count hC hw (c_X12_count_0 γ l z z2 z10 z11 z12 z13 z14 z15 z16 z17 z18 z19 z22 z23 z24 z25 z26 z27 z28 z29 z30 z31 z32 z33 z36 z37 z38 z39 z40 z41 z42 z43 z44 z45 z46 z47 z48 z55 z56 z59 z60 z61 fa ha0 ha1 ha2 ha3 ha4) ⟨by decide, by decide⟩ ⟨by decide, by decide⟩ hl.1 rfl 0 rfl rfl rfl (Nat.le_of_ble_eq_true rfl) [0, 1] [] rfl rfl rfl rfl (by decide) dL_law_1362 (fun r w1 H locs hq hw => ?_)
  obtain ⟨rfl, rfl⟩ := hq
  have hw : kW γ A [] s H locs := hw
  refine W.eq (g2 := F0 m 1365 ls [.int 0, .int 0]) rfl ?_
  refine lv_icmp_eq (tgt := 1370) hx hb dL_law_1365 (by decide) (fun _ => ?_) (fun h => absurd (by decide) h)
  exact law_end hC hr hlocks hX hbl hbA hAs hl9 _ _ (kW.sub hw [] rfl rfl) (by decide) (by decide) _ (lv_sub hl [0, 4] rfl)

set_option maxHeartbeats 4000000 in
set_option maxRecDepth 100000 in
theorem lc_31_1 {γ : kΓ} {l : Launch} {p : Program} {e : Env} {s : State} {m : MethodId} {below : List Frame} {meth : Method} {c : Code} {A : Nat → Prop} {b : Nat} {xs : Nat → Int32} (hC : kC γ p s m [Value.ref b].toArray c code 7 RL A) (hr : meth.sig.returnType = ret) (hlocks : meth.locks = false) (hX : va_X b 7 xs s s.heap) (hbl : b < s.heap.size) (hbA : ¬ A b) (hAs : ∀ q, A q → s.heap.size ≤ q) (hl9 : l.stackTraces = false) (x : Nat) (x0 : Nat) (x1 : Nat) (x2 : Nat) (x3 : Nat) (x4 : Nat) (x5 : Nat) (x6 : Nat) (x7 : Nat) (x8 : Nat) (x9 : Nat) (x10 : Nat) (z : Nat) (z2 : Nat) (z10 : Nat) (z11 : Nat) (z12 : Nat) (z13 : Nat) (z14 : Nat) (z15 : Nat) (z16 : Nat) (z17 : Nat) (z18 : Nat) (z19 : Nat) (z22 : Nat) (z23 : Nat) (z24 : Nat) (z25 : Nat) (z26 : Nat) (z27 : Nat) (z28 : Nat) (z29 : Nat) (z30 : Nat) (z31 : Nat) (z32 : Nat) (z33 : Nat) (z36 : Nat) (z37 : Nat) (z38 : Nat) (z39 : Nat) (z40 : Nat) (z41 : Nat) (z42 : Nat) (z43 : Nat) (z44 : Nat) (z45 : Nat) (z46 : Nat) (z47 : Nat) (z48 : Nat) (z55 : Nat) (z56 : Nat) (z59 : Nat) (z60 : Nat) (z61 : Nat) (x90 : Nat) (x91 : Nat) (x92 : Nat) (x93 : Nat) (x94 : Nat) (x95 : Nat) (x96 : Nat) (x97 : Nat) (fa : Nat → Int32) (ou : Nat) (ha0 : fa 0 = 0) (ha1 : fa 1 = 0) (ha2 : fa 2 = 10) (ha3 : fa 3 = 10) (ha4 : fa 4 = 3) (hv : xs 1 = 1) (H : Heap) (locs : List Loc) (hw : kW γ A [(x, .inr (10, [.ref x0, .ref x1, .ref x2, .ref x3, .ref x4, .ref x5, .ref x6, .ref x7, .ref x8, .ref x9, .ref x10])), (z, .inr (11, [.int 0, .int 0, .ref z2, .int 0, .int 0, .int 0, .int 0, .long 0, .int 0, .int 0, .ref z10, .ref z11, .ref z12, .ref z13, .ref z14, .ref z15, .ref z16, .ref z17, .ref z18, .ref z19, .int 0, .int 0, .ref z22, .ref z23, .ref z24, .ref z25, .ref z26, .ref z27, .ref z28, .ref z29, .ref z30, .ref z31, .ref z32, .ref z33, .int 0, .long 0, .ref z36, .ref z37, .ref z38, .ref z39, .ref z40, .ref z41, .ref z42, .ref z43, .ref z44, .ref z45, .ref z46, .ref z47, .ref z48, .int 0, .int 10, .int 0, .int 0, .int 0, .int 0, .ref z55, .ref z56, .int 0, .int 0, .ref z59, .ref z60, .ref z61, .int 0, .long 0])), (x9, .inr (0, [.ref x90, .ref x91, .ref x92, .ref x93, .ref x94, .ref x95, .ref x96, .ref x97, .int 0, .int 0, .int 10, .int 10, .int 3, .int 0, .int 0, .int 0, .int 0, .int 0, .int 0])), (z10, .inl (γ.2.1 0, 10, .inl fa))] s H locs) (ls : Array Slot) (hl : lv_has ls 7 [(4, .int 0), (3, .ref ou), (2, .ref z), (1, .ref x), (0, .ref b)]) : W p l e room_1 s m [Value.ref b].toArray below meth c H locs 251 13922 (lw_Z below #[Value.ref b] s) (F0 m 1345 ls []) := by
  have hx := hC.1
  have hb := hC.2.1
  refine lv_aload_n hx hb dL_law_1345 rfl (lv_at hl 3 rfl) ?_
  refine lv_aload_n hx hb dL_law_1346 rfl (lv_at hl 4 rfl) ?_
  refine lv_iload hx hb dL_law_1347 (lv_at hl 0 rfl) ?_
  refine lv_iconst (v := 1) hx hb dL_law_1349 (by decide) ?_
  refine lv_iadd hx hb dL_law_1350 ?_
  refine lv_topi (fun x_2471 ex_2471 => ?_)
  obtain rfl : x_2471 = 1 := ex_2471.trans (by decide)
  refine va_sld hx hb hX hbl hbA hw.2.2 (k_in0 (by decide)) dL_law_1351 ?_
  refine lv_topi (fun x_2472 ex_2472 => ?_)
  obtain rfl : x_2472 = 1 := (show x_2472 = xs 1 from ex_2472).trans hv
  refine k_V (wr := [(z, .inr (11, [.int 0, .int 0, .ref z2, .int 0, .int 0, .int 0, .int 0, .long 0, .int 0, .int 0, .ref z10, .ref z11, .ref z12, .ref z13, .ref z14, .ref z15, .ref z16, .ref z17, .ref z18, .ref z19, .int 0, .int 0, .ref z22, .ref z23, .ref z24, .ref z25, .ref z26, .ref z27, .ref z28, .ref z29, .ref z30, .ref z31, .ref z32, .ref z33, .int 0, .long 0, .ref z36, .ref z37, .ref z38, .ref z39, .ref z40, .ref z41, .ref z42, .ref z43, .ref z44, .ref z45, .ref z46, .ref z47, .ref z48, .int 0, .int 10, .int 0, .int 0, .int 0, .int 0, .ref z55, .ref z56, .int 0, .int 0, .ref z59, .ref z60, .ref z61, .int 0, .long 0])), (z10, .inl (γ.2.1 0, 10, .inl fa))]) 1 gw_739 gw_740 gw_741 gw_1 gw_742 hd_X11_count hC hw (c_X11_count_1 γ l x x0 x1 x2 x3 x4 x5 x6 x7 x8 x9 x10 x90 x91 x92 x93 x94 x95 x96 x97) ⟨by decide, by decide⟩ ⟨by decide, by decide⟩ hl.1 rfl 0 rfl rfl rfl (Nat.le_of_ble_eq_true rfl) [0, 2] [1, 3] rfl rfl rfl rfl (by decide) dL_law_1352 (fun r w1 H locs hq hw => ?_)
  obtain ⟨rfl, rfl⟩ := hq
  have hw : kW γ A [(z, .inr (11, [.int 0, .int 0, .ref z2, .int 0, .int 0, .int 0, .int 0, .long 0, .int 0, .int 0, .ref z10, .ref z11, .ref z12, .ref z13, .ref z14, .ref z15, .ref z16, .ref z17, .ref z18, .ref z19, .int 0, .int 0, .ref z22, .ref z23, .ref z24, .ref z25, .ref z26, .ref z27, .ref z28, .ref z29, .ref z30, .ref z31, .ref z32, .ref z33, .int 0, .long 0, .ref z36, .ref z37, .ref z38, .ref z39, .ref z40, .ref z41, .ref z42, .ref z43, .ref z44, .ref z45, .ref z46, .ref z47, .ref z48, .int 0, .int 10, .int 0, .int 0, .int 0, .int 0, .ref z55, .ref z56, .int 0, .int 0, .ref z59, .ref z60, .ref z61, .int 0, .long 0])), (z10, .inl (γ.2.1 0, 10, .inl fa))] s H locs := hw
  refine W.eq (g2 := F0 m 1355 ls [.int 0]) rfl ?_
  refine lv_aload_n hx hb dL_law_1355 rfl (lv_at hl 2 rfl) ?_
  refine lv_aload_n hx hb dL_law_1356 rfl (lv_at hl 4 rfl) ?_
  refine lv_iload hx hb dL_law_1357 (lv_at hl 0 rfl) ?_
  refine lv_iconst (v := 1) hx hb dL_law_1359 (by decide) ?_
  refine lv_iadd hx hb dL_law_1360 ?_
  refine lv_topi (fun x_2473 ex_2473 => ?_)
  obtain rfl : x_2473 = 1 := ex_2473.trans (by decide)
  refine va_sld hx hb hX hbl hbA hw.2.2 (k_in0 (by decide)) dL_law_1361 ?_
  refine lv_topi (fun x_2474 ex_2474 => ?_)
  obtain rfl : x_2474 = 1 := (show x_2474 = xs 1 from ex_2474).trans hv
  refine k_V (wr := []) 1 gw_1811 gw_1812 gw_1813 gw_15 gw_1814 hd_X12_count hC hw (c_X12_count_1 γ l z z2 z10 z11 z12 z13 z14 z15 z16 z17 z18 z19 z22 z23 z24 z25 z26 z27 z28 z29 z30 z31 z32 z33 z36 z37 z38 z39 z40 z41 z42 z43 z44 z45 z46 z47 z48 z55 z56 z59 z60 z61 fa ha0 ha1 ha2 ha3 ha4) ⟨by decide, by decide⟩ ⟨by decide, by decide⟩ hl.1 rfl 0 rfl rfl rfl (Nat.le_of_ble_eq_true rfl) [0, 1] [] rfl rfl rfl rfl (by decide) dL_law_1362 (fun r w1 H locs hq hw => ?_)
  obtain ⟨rfl, rfl⟩ := hq
  have hw : kW γ A [] s H locs := hw
  refine W.eq (g2 := F0 m 1365 ls [.int 0, .int 0]) rfl ?_
  refine lv_icmp_eq (tgt := 1370) hx hb dL_law_1365 (by decide) (fun _ => ?_) (fun h => absurd (by decide) h)
  exact law_end hC hr hlocks hX hbl hbA hAs hl9 _ _ (kW.sub hw [] rfl rfl) (by decide) (by decide) _ (lv_sub hl [0, 4] rfl)

set_option maxHeartbeats 4000000 in
set_option maxRecDepth 100000 in
theorem lc_31_2 {γ : kΓ} {l : Launch} {p : Program} {e : Env} {s : State} {m : MethodId} {below : List Frame} {meth : Method} {c : Code} {A : Nat → Prop} {b : Nat} {xs : Nat → Int32} (hC : kC γ p s m [Value.ref b].toArray c code 7 RL A) (hr : meth.sig.returnType = ret) (hlocks : meth.locks = false) (hX : va_X b 7 xs s s.heap) (hbl : b < s.heap.size) (hbA : ¬ A b) (hAs : ∀ q, A q → s.heap.size ≤ q) (hl9 : l.stackTraces = false) (x : Nat) (x0 : Nat) (x1 : Nat) (x2 : Nat) (x3 : Nat) (x4 : Nat) (x5 : Nat) (x6 : Nat) (x7 : Nat) (x8 : Nat) (x9 : Nat) (x10 : Nat) (z : Nat) (z2 : Nat) (z10 : Nat) (z11 : Nat) (z12 : Nat) (z13 : Nat) (z14 : Nat) (z15 : Nat) (z16 : Nat) (z17 : Nat) (z18 : Nat) (z19 : Nat) (z22 : Nat) (z23 : Nat) (z24 : Nat) (z25 : Nat) (z26 : Nat) (z27 : Nat) (z28 : Nat) (z29 : Nat) (z30 : Nat) (z31 : Nat) (z32 : Nat) (z33 : Nat) (z36 : Nat) (z37 : Nat) (z38 : Nat) (z39 : Nat) (z40 : Nat) (z41 : Nat) (z42 : Nat) (z43 : Nat) (z44 : Nat) (z45 : Nat) (z46 : Nat) (z47 : Nat) (z48 : Nat) (z55 : Nat) (z56 : Nat) (z59 : Nat) (z60 : Nat) (z61 : Nat) (x90 : Nat) (x91 : Nat) (x92 : Nat) (x93 : Nat) (x94 : Nat) (x95 : Nat) (x96 : Nat) (x97 : Nat) (fa : Nat → Int32) (ou : Nat) (ha0 : fa 0 = 0) (ha1 : fa 1 = 0) (ha2 : fa 2 = 10) (ha3 : fa 3 = 10) (ha4 : fa 4 = 3) (hv : xs 1 = 2) (H : Heap) (locs : List Loc) (hw : kW γ A [(x, .inr (10, [.ref x0, .ref x1, .ref x2, .ref x3, .ref x4, .ref x5, .ref x6, .ref x7, .ref x8, .ref x9, .ref x10])), (z, .inr (11, [.int 0, .int 0, .ref z2, .int 0, .int 0, .int 0, .int 0, .long 0, .int 0, .int 0, .ref z10, .ref z11, .ref z12, .ref z13, .ref z14, .ref z15, .ref z16, .ref z17, .ref z18, .ref z19, .int 0, .int 0, .ref z22, .ref z23, .ref z24, .ref z25, .ref z26, .ref z27, .ref z28, .ref z29, .ref z30, .ref z31, .ref z32, .ref z33, .int 0, .long 0, .ref z36, .ref z37, .ref z38, .ref z39, .ref z40, .ref z41, .ref z42, .ref z43, .ref z44, .ref z45, .ref z46, .ref z47, .ref z48, .int 0, .int 10, .int 0, .int 0, .int 0, .int 0, .ref z55, .ref z56, .int 0, .int 0, .ref z59, .ref z60, .ref z61, .int 0, .long 0])), (x9, .inr (0, [.ref x90, .ref x91, .ref x92, .ref x93, .ref x94, .ref x95, .ref x96, .ref x97, .int 0, .int 0, .int 10, .int 10, .int 3, .int 0, .int 0, .int 0, .int 0, .int 0, .int 0])), (z10, .inl (γ.2.1 0, 10, .inl fa))] s H locs) (ls : Array Slot) (hl : lv_has ls 7 [(4, .int 0), (3, .ref ou), (2, .ref z), (1, .ref x), (0, .ref b)]) : W p l e room_1 s m [Value.ref b].toArray below meth c H locs 251 13922 (lw_Z below #[Value.ref b] s) (F0 m 1345 ls []) := by
  have hx := hC.1
  have hb := hC.2.1
  refine lv_aload_n hx hb dL_law_1345 rfl (lv_at hl 3 rfl) ?_
  refine lv_aload_n hx hb dL_law_1346 rfl (lv_at hl 4 rfl) ?_
  refine lv_iload hx hb dL_law_1347 (lv_at hl 0 rfl) ?_
  refine lv_iconst (v := 1) hx hb dL_law_1349 (by decide) ?_
  refine lv_iadd hx hb dL_law_1350 ?_
  refine lv_topi (fun x_2475 ex_2475 => ?_)
  obtain rfl : x_2475 = 1 := ex_2475.trans (by decide)
  refine va_sld hx hb hX hbl hbA hw.2.2 (k_in0 (by decide)) dL_law_1351 ?_
  refine lv_topi (fun x_2476 ex_2476 => ?_)
  obtain rfl : x_2476 = 2 := (show x_2476 = xs 1 from ex_2476).trans hv
  refine k_V (wr := [(z, .inr (11, [.int 0, .int 0, .ref z2, .int 0, .int 0, .int 0, .int 0, .long 0, .int 0, .int 0, .ref z10, .ref z11, .ref z12, .ref z13, .ref z14, .ref z15, .ref z16, .ref z17, .ref z18, .ref z19, .int 0, .int 0, .ref z22, .ref z23, .ref z24, .ref z25, .ref z26, .ref z27, .ref z28, .ref z29, .ref z30, .ref z31, .ref z32, .ref z33, .int 0, .long 0, .ref z36, .ref z37, .ref z38, .ref z39, .ref z40, .ref z41, .ref z42, .ref z43, .ref z44, .ref z45, .ref z46, .ref z47, .ref z48, .int 0, .int 10, .int 0, .int 0, .int 0, .int 0, .ref z55, .ref z56, .int 0, .int 0, .ref z59, .ref z60, .ref z61, .int 0, .long 0])), (z10, .inl (γ.2.1 0, 10, .inl fa))]) 1 gw_739 gw_740 gw_741 gw_1 gw_742 hd_X11_count hC hw (c_X11_count_2 γ l x x0 x1 x2 x3 x4 x5 x6 x7 x8 x9 x10 x90 x91 x92 x93 x94 x95 x96 x97) ⟨by decide, by decide⟩ ⟨by decide, by decide⟩ hl.1 rfl 0 rfl rfl rfl (Nat.le_of_ble_eq_true rfl) [0, 2] [1, 3] rfl rfl rfl rfl (by decide) dL_law_1352 (fun r w1 H locs hq hw => ?_)
  obtain ⟨rfl, rfl⟩ := hq
  have hw : kW γ A [(z, .inr (11, [.int 0, .int 0, .ref z2, .int 0, .int 0, .int 0, .int 0, .long 0, .int 0, .int 0, .ref z10, .ref z11, .ref z12, .ref z13, .ref z14, .ref z15, .ref z16, .ref z17, .ref z18, .ref z19, .int 0, .int 0, .ref z22, .ref z23, .ref z24, .ref z25, .ref z26, .ref z27, .ref z28, .ref z29, .ref z30, .ref z31, .ref z32, .ref z33, .int 0, .long 0, .ref z36, .ref z37, .ref z38, .ref z39, .ref z40, .ref z41, .ref z42, .ref z43, .ref z44, .ref z45, .ref z46, .ref z47, .ref z48, .int 0, .int 10, .int 0, .int 0, .int 0, .int 0, .ref z55, .ref z56, .int 0, .int 0, .ref z59, .ref z60, .ref z61, .int 0, .long 0])), (z10, .inl (γ.2.1 0, 10, .inl fa))] s H locs := hw
  refine W.eq (g2 := F0 m 1355 ls [.int 10]) rfl ?_
  refine lv_aload_n hx hb dL_law_1355 rfl (lv_at hl 2 rfl) ?_
  refine lv_aload_n hx hb dL_law_1356 rfl (lv_at hl 4 rfl) ?_
  refine lv_iload hx hb dL_law_1357 (lv_at hl 0 rfl) ?_
  refine lv_iconst (v := 1) hx hb dL_law_1359 (by decide) ?_
  refine lv_iadd hx hb dL_law_1360 ?_
  refine lv_topi (fun x_2477 ex_2477 => ?_)
  obtain rfl : x_2477 = 1 := ex_2477.trans (by decide)
  refine va_sld hx hb hX hbl hbA hw.2.2 (k_in0 (by decide)) dL_law_1361 ?_
  refine lv_topi (fun x_2478 ex_2478 => ?_)
  obtain rfl : x_2478 = 2 := (show x_2478 = xs 1 from ex_2478).trans hv
  refine k_V (wr := []) 1 gw_1811 gw_1812 gw_1813 gw_15 gw_1814 hd_X12_count hC hw (c_X12_count_2 γ l z z2 z10 z11 z12 z13 z14 z15 z16 z17 z18 z19 z22 z23 z24 z25 z26 z27 z28 z29 z30 z31 z32 z33 z36 z37 z38 z39 z40 z41 z42 z43 z44 z45 z46 z47 z48 z55 z56 z59 z60 z61 fa ha0 ha1 ha2 ha3 ha4) ⟨by decide, by decide⟩ ⟨by decide, by decide⟩ hl.1 rfl 0 rfl rfl rfl (Nat.le_of_ble_eq_true rfl) [0, 1] [] rfl rfl rfl rfl (by decide) dL_law_1362 (fun r w1 H locs hq hw => ?_)
  obtain ⟨rfl, rfl⟩ := hq
  have hw : kW γ A [] s H locs := hw
  refine W.eq (g2 := F0 m 1365 ls [.int 10, .int 10]) rfl ?_
  refine lv_icmp_eq (tgt := 1370) hx hb dL_law_1365 (by decide) (fun _ => ?_) (fun h => absurd (by decide) h)
  exact law_end hC hr hlocks hX hbl hbA hAs hl9 _ _ (kW.sub hw [] rfl rfl) (by decide) (by decide) _ (lv_sub hl [0, 4] rfl)

set_option maxHeartbeats 4000000 in
set_option maxRecDepth 100000 in
theorem lc_31_3 {γ : kΓ} {l : Launch} {p : Program} {e : Env} {s : State} {m : MethodId} {below : List Frame} {meth : Method} {c : Code} {A : Nat → Prop} {b : Nat} {xs : Nat → Int32} (hC : kC γ p s m [Value.ref b].toArray c code 7 RL A) (hr : meth.sig.returnType = ret) (hlocks : meth.locks = false) (hX : va_X b 7 xs s s.heap) (hbl : b < s.heap.size) (hbA : ¬ A b) (hAs : ∀ q, A q → s.heap.size ≤ q) (hl9 : l.stackTraces = false) (x : Nat) (x0 : Nat) (x1 : Nat) (x2 : Nat) (x3 : Nat) (x4 : Nat) (x5 : Nat) (x6 : Nat) (x7 : Nat) (x8 : Nat) (x9 : Nat) (x10 : Nat) (z : Nat) (z2 : Nat) (z10 : Nat) (z11 : Nat) (z12 : Nat) (z13 : Nat) (z14 : Nat) (z15 : Nat) (z16 : Nat) (z17 : Nat) (z18 : Nat) (z19 : Nat) (z22 : Nat) (z23 : Nat) (z24 : Nat) (z25 : Nat) (z26 : Nat) (z27 : Nat) (z28 : Nat) (z29 : Nat) (z30 : Nat) (z31 : Nat) (z32 : Nat) (z33 : Nat) (z36 : Nat) (z37 : Nat) (z38 : Nat) (z39 : Nat) (z40 : Nat) (z41 : Nat) (z42 : Nat) (z43 : Nat) (z44 : Nat) (z45 : Nat) (z46 : Nat) (z47 : Nat) (z48 : Nat) (z55 : Nat) (z56 : Nat) (z59 : Nat) (z60 : Nat) (z61 : Nat) (x90 : Nat) (x91 : Nat) (x92 : Nat) (x93 : Nat) (x94 : Nat) (x95 : Nat) (x96 : Nat) (x97 : Nat) (fa : Nat → Int32) (ou : Nat) (ha0 : fa 0 = 0) (ha1 : fa 1 = 0) (ha2 : fa 2 = 10) (ha3 : fa 3 = 10) (ha4 : fa 4 = 3) (hv : xs 1 = 3) (H : Heap) (locs : List Loc) (hw : kW γ A [(x, .inr (10, [.ref x0, .ref x1, .ref x2, .ref x3, .ref x4, .ref x5, .ref x6, .ref x7, .ref x8, .ref x9, .ref x10])), (z, .inr (11, [.int 0, .int 0, .ref z2, .int 0, .int 0, .int 0, .int 0, .long 0, .int 0, .int 0, .ref z10, .ref z11, .ref z12, .ref z13, .ref z14, .ref z15, .ref z16, .ref z17, .ref z18, .ref z19, .int 0, .int 0, .ref z22, .ref z23, .ref z24, .ref z25, .ref z26, .ref z27, .ref z28, .ref z29, .ref z30, .ref z31, .ref z32, .ref z33, .int 0, .long 0, .ref z36, .ref z37, .ref z38, .ref z39, .ref z40, .ref z41, .ref z42, .ref z43, .ref z44, .ref z45, .ref z46, .ref z47, .ref z48, .int 0, .int 10, .int 0, .int 0, .int 0, .int 0, .ref z55, .ref z56, .int 0, .int 0, .ref z59, .ref z60, .ref z61, .int 0, .long 0])), (x9, .inr (0, [.ref x90, .ref x91, .ref x92, .ref x93, .ref x94, .ref x95, .ref x96, .ref x97, .int 0, .int 0, .int 10, .int 10, .int 3, .int 0, .int 0, .int 0, .int 0, .int 0, .int 0])), (z10, .inl (γ.2.1 0, 10, .inl fa))] s H locs) (ls : Array Slot) (hl : lv_has ls 7 [(4, .int 0), (3, .ref ou), (2, .ref z), (1, .ref x), (0, .ref b)]) : W p l e room_1 s m [Value.ref b].toArray below meth c H locs 251 13922 (lw_Z below #[Value.ref b] s) (F0 m 1345 ls []) := by
  have hx := hC.1
  have hb := hC.2.1
  refine lv_aload_n hx hb dL_law_1345 rfl (lv_at hl 3 rfl) ?_
  refine lv_aload_n hx hb dL_law_1346 rfl (lv_at hl 4 rfl) ?_
  refine lv_iload hx hb dL_law_1347 (lv_at hl 0 rfl) ?_
  refine lv_iconst (v := 1) hx hb dL_law_1349 (by decide) ?_
  refine lv_iadd hx hb dL_law_1350 ?_
  refine lv_topi (fun x_2479 ex_2479 => ?_)
  obtain rfl : x_2479 = 1 := ex_2479.trans (by decide)
  refine va_sld hx hb hX hbl hbA hw.2.2 (k_in0 (by decide)) dL_law_1351 ?_
  refine lv_topi (fun x_2480 ex_2480 => ?_)
  obtain rfl : x_2480 = 3 := (show x_2480 = xs 1 from ex_2480).trans hv
  refine k_V (wr := [(z, .inr (11, [.int 0, .int 0, .ref z2, .int 0, .int 0, .int 0, .int 0, .long 0, .int 0, .int 0, .ref z10, .ref z11, .ref z12, .ref z13, .ref z14, .ref z15, .ref z16, .ref z17, .ref z18, .ref z19, .int 0, .int 0, .ref z22, .ref z23, .ref z24, .ref z25, .ref z26, .ref z27, .ref z28, .ref z29, .ref z30, .ref z31, .ref z32, .ref z33, .int 0, .long 0, .ref z36, .ref z37, .ref z38, .ref z39, .ref z40, .ref z41, .ref z42, .ref z43, .ref z44, .ref z45, .ref z46, .ref z47, .ref z48, .int 0, .int 10, .int 0, .int 0, .int 0, .int 0, .ref z55, .ref z56, .int 0, .int 0, .ref z59, .ref z60, .ref z61, .int 0, .long 0])), (z10, .inl (γ.2.1 0, 10, .inl fa))]) 1 gw_739 gw_740 gw_741 gw_1 gw_742 hd_X11_count hC hw (c_X11_count_3 γ l x x0 x1 x2 x3 x4 x5 x6 x7 x8 x9 x10 x90 x91 x92 x93 x94 x95 x96 x97) ⟨by decide, by decide⟩ ⟨by decide, by decide⟩ hl.1 rfl 0 rfl rfl rfl (Nat.le_of_ble_eq_true rfl) [0, 2] [1, 3] rfl rfl rfl rfl (by decide) dL_law_1352 (fun r w1 H locs hq hw => ?_)
  obtain ⟨rfl, rfl⟩ := hq
  have hw : kW γ A [(z, .inr (11, [.int 0, .int 0, .ref z2, .int 0, .int 0, .int 0, .int 0, .long 0, .int 0, .int 0, .ref z10, .ref z11, .ref z12, .ref z13, .ref z14, .ref z15, .ref z16, .ref z17, .ref z18, .ref z19, .int 0, .int 0, .ref z22, .ref z23, .ref z24, .ref z25, .ref z26, .ref z27, .ref z28, .ref z29, .ref z30, .ref z31, .ref z32, .ref z33, .int 0, .long 0, .ref z36, .ref z37, .ref z38, .ref z39, .ref z40, .ref z41, .ref z42, .ref z43, .ref z44, .ref z45, .ref z46, .ref z47, .ref z48, .int 0, .int 10, .int 0, .int 0, .int 0, .int 0, .ref z55, .ref z56, .int 0, .int 0, .ref z59, .ref z60, .ref z61, .int 0, .long 0])), (z10, .inl (γ.2.1 0, 10, .inl fa))] s H locs := hw
  refine W.eq (g2 := F0 m 1355 ls [.int 10]) rfl ?_
  refine lv_aload_n hx hb dL_law_1355 rfl (lv_at hl 2 rfl) ?_
  refine lv_aload_n hx hb dL_law_1356 rfl (lv_at hl 4 rfl) ?_
  refine lv_iload hx hb dL_law_1357 (lv_at hl 0 rfl) ?_
  refine lv_iconst (v := 1) hx hb dL_law_1359 (by decide) ?_
  refine lv_iadd hx hb dL_law_1360 ?_
  refine lv_topi (fun x_2481 ex_2481 => ?_)
  obtain rfl : x_2481 = 1 := ex_2481.trans (by decide)
  refine va_sld hx hb hX hbl hbA hw.2.2 (k_in0 (by decide)) dL_law_1361 ?_
  refine lv_topi (fun x_2482 ex_2482 => ?_)
  obtain rfl : x_2482 = 3 := (show x_2482 = xs 1 from ex_2482).trans hv
  refine k_V (wr := []) 1 gw_1811 gw_1812 gw_1813 gw_15 gw_1814 hd_X12_count hC hw (c_X12_count_3 γ l z z2 z10 z11 z12 z13 z14 z15 z16 z17 z18 z19 z22 z23 z24 z25 z26 z27 z28 z29 z30 z31 z32 z33 z36 z37 z38 z39 z40 z41 z42 z43 z44 z45 z46 z47 z48 z55 z56 z59 z60 z61 fa ha0 ha1 ha2 ha3 ha4) ⟨by decide, by decide⟩ ⟨by decide, by decide⟩ hl.1 rfl 0 rfl rfl rfl (Nat.le_of_ble_eq_true rfl) [0, 1] [] rfl rfl rfl rfl (by decide) dL_law_1362 (fun r w1 H locs hq hw => ?_)
  obtain ⟨rfl, rfl⟩ := hq
  have hw : kW γ A [] s H locs := hw
  refine W.eq (g2 := F0 m 1365 ls [.int 10, .int 10]) rfl ?_
  refine lv_icmp_eq (tgt := 1370) hx hb dL_law_1365 (by decide) (fun _ => ?_) (fun h => absurd (by decide) h)
  exact law_end hC hr hlocks hX hbl hbA hAs hl9 _ _ (kW.sub hw [] rfl rfl) (by decide) (by decide) _ (lv_sub hl [0, 4] rfl)

set_option maxHeartbeats 4000000 in
set_option maxRecDepth 100000 in
theorem lc_31_4 {γ : kΓ} {l : Launch} {p : Program} {e : Env} {s : State} {m : MethodId} {below : List Frame} {meth : Method} {c : Code} {A : Nat → Prop} {b : Nat} {xs : Nat → Int32} (hC : kC γ p s m [Value.ref b].toArray c code 7 RL A) (hr : meth.sig.returnType = ret) (hlocks : meth.locks = false) (hX : va_X b 7 xs s s.heap) (hbl : b < s.heap.size) (hbA : ¬ A b) (hAs : ∀ q, A q → s.heap.size ≤ q) (hl9 : l.stackTraces = false) (x : Nat) (x0 : Nat) (x1 : Nat) (x2 : Nat) (x3 : Nat) (x4 : Nat) (x5 : Nat) (x6 : Nat) (x7 : Nat) (x8 : Nat) (x9 : Nat) (x10 : Nat) (z : Nat) (z2 : Nat) (z10 : Nat) (z11 : Nat) (z12 : Nat) (z13 : Nat) (z14 : Nat) (z15 : Nat) (z16 : Nat) (z17 : Nat) (z18 : Nat) (z19 : Nat) (z22 : Nat) (z23 : Nat) (z24 : Nat) (z25 : Nat) (z26 : Nat) (z27 : Nat) (z28 : Nat) (z29 : Nat) (z30 : Nat) (z31 : Nat) (z32 : Nat) (z33 : Nat) (z36 : Nat) (z37 : Nat) (z38 : Nat) (z39 : Nat) (z40 : Nat) (z41 : Nat) (z42 : Nat) (z43 : Nat) (z44 : Nat) (z45 : Nat) (z46 : Nat) (z47 : Nat) (z48 : Nat) (z55 : Nat) (z56 : Nat) (z59 : Nat) (z60 : Nat) (z61 : Nat) (x90 : Nat) (x91 : Nat) (x92 : Nat) (x93 : Nat) (x94 : Nat) (x95 : Nat) (x96 : Nat) (x97 : Nat) (fa : Nat → Int32) (ou : Nat) (ha0 : fa 0 = 0) (ha1 : fa 1 = 0) (ha2 : fa 2 = 10) (ha3 : fa 3 = 10) (ha4 : fa 4 = 3) (hv : xs 1 = 4) (H : Heap) (locs : List Loc) (hw : kW γ A [(x, .inr (10, [.ref x0, .ref x1, .ref x2, .ref x3, .ref x4, .ref x5, .ref x6, .ref x7, .ref x8, .ref x9, .ref x10])), (z, .inr (11, [.int 0, .int 0, .ref z2, .int 0, .int 0, .int 0, .int 0, .long 0, .int 0, .int 0, .ref z10, .ref z11, .ref z12, .ref z13, .ref z14, .ref z15, .ref z16, .ref z17, .ref z18, .ref z19, .int 0, .int 0, .ref z22, .ref z23, .ref z24, .ref z25, .ref z26, .ref z27, .ref z28, .ref z29, .ref z30, .ref z31, .ref z32, .ref z33, .int 0, .long 0, .ref z36, .ref z37, .ref z38, .ref z39, .ref z40, .ref z41, .ref z42, .ref z43, .ref z44, .ref z45, .ref z46, .ref z47, .ref z48, .int 0, .int 10, .int 0, .int 0, .int 0, .int 0, .ref z55, .ref z56, .int 0, .int 0, .ref z59, .ref z60, .ref z61, .int 0, .long 0])), (x9, .inr (0, [.ref x90, .ref x91, .ref x92, .ref x93, .ref x94, .ref x95, .ref x96, .ref x97, .int 0, .int 0, .int 10, .int 10, .int 3, .int 0, .int 0, .int 0, .int 0, .int 0, .int 0])), (z10, .inl (γ.2.1 0, 10, .inl fa))] s H locs) (ls : Array Slot) (hl : lv_has ls 7 [(4, .int 0), (3, .ref ou), (2, .ref z), (1, .ref x), (0, .ref b)]) : W p l e room_1 s m [Value.ref b].toArray below meth c H locs 251 13922 (lw_Z below #[Value.ref b] s) (F0 m 1345 ls []) := by
  have hx := hC.1
  have hb := hC.2.1
  refine lv_aload_n hx hb dL_law_1345 rfl (lv_at hl 3 rfl) ?_
  refine lv_aload_n hx hb dL_law_1346 rfl (lv_at hl 4 rfl) ?_
  refine lv_iload hx hb dL_law_1347 (lv_at hl 0 rfl) ?_
  refine lv_iconst (v := 1) hx hb dL_law_1349 (by decide) ?_
  refine lv_iadd hx hb dL_law_1350 ?_
  refine lv_topi (fun x_2483 ex_2483 => ?_)
  obtain rfl : x_2483 = 1 := ex_2483.trans (by decide)
  refine va_sld hx hb hX hbl hbA hw.2.2 (k_in0 (by decide)) dL_law_1351 ?_
  refine lv_topi (fun x_2484 ex_2484 => ?_)
  obtain rfl : x_2484 = 4 := (show x_2484 = xs 1 from ex_2484).trans hv
  refine k_V (wr := [(z, .inr (11, [.int 0, .int 0, .ref z2, .int 0, .int 0, .int 0, .int 0, .long 0, .int 0, .int 0, .ref z10, .ref z11, .ref z12, .ref z13, .ref z14, .ref z15, .ref z16, .ref z17, .ref z18, .ref z19, .int 0, .int 0, .ref z22, .ref z23, .ref z24, .ref z25, .ref z26, .ref z27, .ref z28, .ref z29, .ref z30, .ref z31, .ref z32, .ref z33, .int 0, .long 0, .ref z36, .ref z37, .ref z38, .ref z39, .ref z40, .ref z41, .ref z42, .ref z43, .ref z44, .ref z45, .ref z46, .ref z47, .ref z48, .int 0, .int 10, .int 0, .int 0, .int 0, .int 0, .ref z55, .ref z56, .int 0, .int 0, .ref z59, .ref z60, .ref z61, .int 0, .long 0])), (z10, .inl (γ.2.1 0, 10, .inl fa))]) 1 gw_739 gw_740 gw_741 gw_1 gw_742 hd_X11_count hC hw (c_X11_count_4 γ l x x0 x1 x2 x3 x4 x5 x6 x7 x8 x9 x10 x90 x91 x92 x93 x94 x95 x96 x97) ⟨by decide, by decide⟩ ⟨by decide, by decide⟩ hl.1 rfl 0 rfl rfl rfl (Nat.le_of_ble_eq_true rfl) [0, 2] [1, 3] rfl rfl rfl rfl (by decide) dL_law_1352 (fun r w1 H locs hq hw => ?_)
  obtain ⟨rfl, rfl⟩ := hq
  have hw : kW γ A [(z, .inr (11, [.int 0, .int 0, .ref z2, .int 0, .int 0, .int 0, .int 0, .long 0, .int 0, .int 0, .ref z10, .ref z11, .ref z12, .ref z13, .ref z14, .ref z15, .ref z16, .ref z17, .ref z18, .ref z19, .int 0, .int 0, .ref z22, .ref z23, .ref z24, .ref z25, .ref z26, .ref z27, .ref z28, .ref z29, .ref z30, .ref z31, .ref z32, .ref z33, .int 0, .long 0, .ref z36, .ref z37, .ref z38, .ref z39, .ref z40, .ref z41, .ref z42, .ref z43, .ref z44, .ref z45, .ref z46, .ref z47, .ref z48, .int 0, .int 10, .int 0, .int 0, .int 0, .int 0, .ref z55, .ref z56, .int 0, .int 0, .ref z59, .ref z60, .ref z61, .int 0, .long 0])), (z10, .inl (γ.2.1 0, 10, .inl fa))] s H locs := hw
  refine W.eq (g2 := F0 m 1355 ls [.int 3]) rfl ?_
  refine lv_aload_n hx hb dL_law_1355 rfl (lv_at hl 2 rfl) ?_
  refine lv_aload_n hx hb dL_law_1356 rfl (lv_at hl 4 rfl) ?_
  refine lv_iload hx hb dL_law_1357 (lv_at hl 0 rfl) ?_
  refine lv_iconst (v := 1) hx hb dL_law_1359 (by decide) ?_
  refine lv_iadd hx hb dL_law_1360 ?_
  refine lv_topi (fun x_2485 ex_2485 => ?_)
  obtain rfl : x_2485 = 1 := ex_2485.trans (by decide)
  refine va_sld hx hb hX hbl hbA hw.2.2 (k_in0 (by decide)) dL_law_1361 ?_
  refine lv_topi (fun x_2486 ex_2486 => ?_)
  obtain rfl : x_2486 = 4 := (show x_2486 = xs 1 from ex_2486).trans hv
  refine k_V (wr := []) 1 gw_1811 gw_1812 gw_1813 gw_15 gw_1814 hd_X12_count hC hw (c_X12_count_4 γ l z z2 z10 z11 z12 z13 z14 z15 z16 z17 z18 z19 z22 z23 z24 z25 z26 z27 z28 z29 z30 z31 z32 z33 z36 z37 z38 z39 z40 z41 z42 z43 z44 z45 z46 z47 z48 z55 z56 z59 z60 z61 fa ha0 ha1 ha2 ha3 ha4) ⟨by decide, by decide⟩ ⟨by decide, by decide⟩ hl.1 rfl 0 rfl rfl rfl (Nat.le_of_ble_eq_true rfl) [0, 1] [] rfl rfl rfl rfl (by decide) dL_law_1362 (fun r w1 H locs hq hw => ?_)
  obtain ⟨rfl, rfl⟩ := hq
  have hw : kW γ A [] s H locs := hw
  refine W.eq (g2 := F0 m 1365 ls [.int 3, .int 3]) rfl ?_
  refine lv_icmp_eq (tgt := 1370) hx hb dL_law_1365 (by decide) (fun _ => ?_) (fun h => absurd (by decide) h)
  exact law_end hC hr hlocks hX hbl hbA hAs hl9 _ _ (kW.sub hw [] rfl rfl) (by decide) (by decide) _ (lv_sub hl [0, 4] rfl)

set_option maxHeartbeats 4000000 in
set_option maxRecDepth 100000 in
theorem lc_31_5 {γ : kΓ} {l : Launch} {p : Program} {e : Env} {s : State} {m : MethodId} {below : List Frame} {meth : Method} {c : Code} {A : Nat → Prop} {b : Nat} {xs : Nat → Int32} (hC : kC γ p s m [Value.ref b].toArray c code 7 RL A) (hr : meth.sig.returnType = ret) (hlocks : meth.locks = false) (hX : va_X b 7 xs s s.heap) (hbl : b < s.heap.size) (hbA : ¬ A b) (hAs : ∀ q, A q → s.heap.size ≤ q) (hl9 : l.stackTraces = false) (x : Nat) (x0 : Nat) (x1 : Nat) (x2 : Nat) (x3 : Nat) (x4 : Nat) (x5 : Nat) (x6 : Nat) (x7 : Nat) (x8 : Nat) (x9 : Nat) (x10 : Nat) (z : Nat) (z2 : Nat) (z10 : Nat) (z11 : Nat) (z12 : Nat) (z13 : Nat) (z14 : Nat) (z15 : Nat) (z16 : Nat) (z17 : Nat) (z18 : Nat) (z19 : Nat) (z22 : Nat) (z23 : Nat) (z24 : Nat) (z25 : Nat) (z26 : Nat) (z27 : Nat) (z28 : Nat) (z29 : Nat) (z30 : Nat) (z31 : Nat) (z32 : Nat) (z33 : Nat) (z36 : Nat) (z37 : Nat) (z38 : Nat) (z39 : Nat) (z40 : Nat) (z41 : Nat) (z42 : Nat) (z43 : Nat) (z44 : Nat) (z45 : Nat) (z46 : Nat) (z47 : Nat) (z48 : Nat) (z55 : Nat) (z56 : Nat) (z59 : Nat) (z60 : Nat) (z61 : Nat) (x2s : Nat) (x2y : Nat) (x2q : Nat) (x2s_l : Nat) (x2s_c : Nat) (x2s_g : Nat) (x2s_r : Nat) (x2s_k : Nat) (x2s_b : Nat) (fa : Nat → Int32) (ou : Nat) (ha0 : fa 0 = 0) (ha1 : fa 1 = 0) (ha2 : fa 2 = 10) (ha3 : fa 3 = 10) (ha4 : fa 4 = 3) (hv : xs 1 = 5) (H : Heap) (locs : List Loc) (hw : kW γ A [(x, .inr (10, [.ref x0, .ref x1, .ref x2, .ref x3, .ref x4, .ref x5, .ref x6, .ref x7, .ref x8, .ref x9, .ref x10])), (z, .inr (11, [.int 0, .int 0, .ref z2, .int 0, .int 0, .int 0, .int 0, .long 0, .int 0, .int 0, .ref z10, .ref z11, .ref z12, .ref z13, .ref z14, .ref z15, .ref z16, .ref z17, .ref z18, .ref z19, .int 0, .int 0, .ref z22, .ref z23, .ref z24, .ref z25, .ref z26, .ref z27, .ref z28, .ref z29, .ref z30, .ref z31, .ref z32, .ref z33, .int 0, .long 0, .ref z36, .ref z37, .ref z38, .ref z39, .ref z40, .ref z41, .ref z42, .ref z43, .ref z44, .ref z45, .ref z46, .ref z47, .ref z48, .int 0, .int 10, .int 0, .int 0, .int 0, .int 0, .ref z55, .ref z56, .int 0, .int 0, .ref z59, .ref z60, .ref z61, .int 0, .long 0])), (x2, .inr (3, [.ref x2s, .ref x2y, .ref x2q, .int 0, .int 0, .int 0])), (x2s, .inr (7, [.ref x2s_l, .ref x2s_c, .ref x2s_g, .ref x2s_r, .ref x2s_k, .ref x2s_b, .int 0, .int 0, .int 0])), (z10, .inl (γ.2.1 0, 10, .inl fa))] s H locs) (ls : Array Slot) (hl : lv_has ls 7 [(4, .int 0), (3, .ref ou), (2, .ref z), (1, .ref x), (0, .ref b)]) : W p l e room_1 s m [Value.ref b].toArray below meth c H locs 251 13922 (lw_Z below #[Value.ref b] s) (F0 m 1345 ls []) := by
  have hx := hC.1
  have hb := hC.2.1
  refine lv_aload_n hx hb dL_law_1345 rfl (lv_at hl 3 rfl) ?_
  refine lv_aload_n hx hb dL_law_1346 rfl (lv_at hl 4 rfl) ?_
  refine lv_iload hx hb dL_law_1347 (lv_at hl 0 rfl) ?_
  refine lv_iconst (v := 1) hx hb dL_law_1349 (by decide) ?_
  refine lv_iadd hx hb dL_law_1350 ?_
  refine lv_topi (fun x_2487 ex_2487 => ?_)
  obtain rfl : x_2487 = 1 := ex_2487.trans (by decide)
  refine va_sld hx hb hX hbl hbA hw.2.2 (k_in0 (by decide)) dL_law_1351 ?_
  refine lv_topi (fun x_2488 ex_2488 => ?_)
  obtain rfl : x_2488 = 5 := (show x_2488 = xs 1 from ex_2488).trans hv
  refine k_V (wr := [(z, .inr (11, [.int 0, .int 0, .ref z2, .int 0, .int 0, .int 0, .int 0, .long 0, .int 0, .int 0, .ref z10, .ref z11, .ref z12, .ref z13, .ref z14, .ref z15, .ref z16, .ref z17, .ref z18, .ref z19, .int 0, .int 0, .ref z22, .ref z23, .ref z24, .ref z25, .ref z26, .ref z27, .ref z28, .ref z29, .ref z30, .ref z31, .ref z32, .ref z33, .int 0, .long 0, .ref z36, .ref z37, .ref z38, .ref z39, .ref z40, .ref z41, .ref z42, .ref z43, .ref z44, .ref z45, .ref z46, .ref z47, .ref z48, .int 0, .int 10, .int 0, .int 0, .int 0, .int 0, .ref z55, .ref z56, .int 0, .int 0, .ref z59, .ref z60, .ref z61, .int 0, .long 0])), (z10, .inl (γ.2.1 0, 10, .inl fa))]) 1 gw_739 gw_740 gw_741 gw_1 gw_742 hd_X11_count hC hw (c_X11_count_5 γ l x x0 x1 x2 x3 x4 x5 x6 x7 x8 x9 x10 x2s x2y x2q x2s_l x2s_c x2s_g x2s_r x2s_k x2s_b) ⟨by decide, by decide⟩ ⟨by decide, by decide⟩ hl.1 rfl 0 rfl rfl rfl (Nat.le_of_ble_eq_true rfl) [0, 2, 3] [1, 4] rfl rfl rfl rfl (by decide) dL_law_1352 (fun r w1 H locs hq hw => ?_)
  obtain ⟨rfl, rfl⟩ := hq
  have hw : kW γ A [(z, .inr (11, [.int 0, .int 0, .ref z2, .int 0, .int 0, .int 0, .int 0, .long 0, .int 0, .int 0, .ref z10, .ref z11, .ref z12, .ref z13, .ref z14, .ref z15, .ref z16, .ref z17, .ref z18, .ref z19, .int 0, .int 0, .ref z22, .ref z23, .ref z24, .ref z25, .ref z26, .ref z27, .ref z28, .ref z29, .ref z30, .ref z31, .ref z32, .ref z33, .int 0, .long 0, .ref z36, .ref z37, .ref z38, .ref z39, .ref z40, .ref z41, .ref z42, .ref z43, .ref z44, .ref z45, .ref z46, .ref z47, .ref z48, .int 0, .int 10, .int 0, .int 0, .int 0, .int 0, .ref z55, .ref z56, .int 0, .int 0, .ref z59, .ref z60, .ref z61, .int 0, .long 0])), (z10, .inl (γ.2.1 0, 10, .inl fa))] s H locs := hw
  refine W.eq (g2 := F0 m 1355 ls [.int 0]) rfl ?_
  refine lv_aload_n hx hb dL_law_1355 rfl (lv_at hl 2 rfl) ?_
  refine lv_aload_n hx hb dL_law_1356 rfl (lv_at hl 4 rfl) ?_
  refine lv_iload hx hb dL_law_1357 (lv_at hl 0 rfl) ?_
  refine lv_iconst (v := 1) hx hb dL_law_1359 (by decide) ?_
  refine lv_iadd hx hb dL_law_1360 ?_
  refine lv_topi (fun x_2489 ex_2489 => ?_)
  obtain rfl : x_2489 = 1 := ex_2489.trans (by decide)
  refine va_sld hx hb hX hbl hbA hw.2.2 (k_in0 (by decide)) dL_law_1361 ?_
  refine lv_topi (fun x_2490 ex_2490 => ?_)
  obtain rfl : x_2490 = 5 := (show x_2490 = xs 1 from ex_2490).trans hv
  refine k_V (wr := []) 1 gw_1811 gw_1812 gw_1813 gw_15 gw_1814 hd_X12_count hC hw (c_X12_count_5 γ l z z2 z10 z11 z12 z13 z14 z15 z16 z17 z18 z19 z22 z23 z24 z25 z26 z27 z28 z29 z30 z31 z32 z33 z36 z37 z38 z39 z40 z41 z42 z43 z44 z45 z46 z47 z48 z55 z56 z59 z60 z61 fa ha0 ha1 ha2 ha3 ha4) ⟨by decide, by decide⟩ ⟨by decide, by decide⟩ hl.1 rfl 0 rfl rfl rfl (Nat.le_of_ble_eq_true rfl) [0, 1] [] rfl rfl rfl rfl (by decide) dL_law_1362 (fun r w1 H locs hq hw => ?_)
  obtain ⟨rfl, rfl⟩ := hq
  have hw : kW γ A [] s H locs := hw
  refine W.eq (g2 := F0 m 1365 ls [.int 0, .int 0]) rfl ?_
  refine lv_icmp_eq (tgt := 1370) hx hb dL_law_1365 (by decide) (fun _ => ?_) (fun h => absurd (by decide) h)
  exact law_end hC hr hlocks hX hbl hbA hAs hl9 _ _ (kW.sub hw [] rfl rfl) (by decide) (by decide) _ (lv_sub hl [0, 4] rfl)

set_option maxHeartbeats 4000000 in
set_option maxRecDepth 100000 in
theorem lc_31_6 {γ : kΓ} {l : Launch} {p : Program} {e : Env} {s : State} {m : MethodId} {below : List Frame} {meth : Method} {c : Code} {A : Nat → Prop} {b : Nat} {xs : Nat → Int32} (hC : kC γ p s m [Value.ref b].toArray c code 7 RL A) (hr : meth.sig.returnType = ret) (hlocks : meth.locks = false) (hX : va_X b 7 xs s s.heap) (hbl : b < s.heap.size) (hbA : ¬ A b) (hAs : ∀ q, A q → s.heap.size ≤ q) (hl9 : l.stackTraces = false) (x : Nat) (x0 : Nat) (x1 : Nat) (x2 : Nat) (x3 : Nat) (x4 : Nat) (x5 : Nat) (x6 : Nat) (x7 : Nat) (x8 : Nat) (x9 : Nat) (x10 : Nat) (z : Nat) (z2 : Nat) (z10 : Nat) (z11 : Nat) (z12 : Nat) (z13 : Nat) (z14 : Nat) (z15 : Nat) (z16 : Nat) (z17 : Nat) (z18 : Nat) (z19 : Nat) (z22 : Nat) (z23 : Nat) (z24 : Nat) (z25 : Nat) (z26 : Nat) (z27 : Nat) (z28 : Nat) (z29 : Nat) (z30 : Nat) (z31 : Nat) (z32 : Nat) (z33 : Nat) (z36 : Nat) (z37 : Nat) (z38 : Nat) (z39 : Nat) (z40 : Nat) (z41 : Nat) (z42 : Nat) (z43 : Nat) (z44 : Nat) (z45 : Nat) (z46 : Nat) (z47 : Nat) (z48 : Nat) (z55 : Nat) (z56 : Nat) (z59 : Nat) (z60 : Nat) (z61 : Nat) (x2s : Nat) (x2y : Nat) (x2q : Nat) (x2s_l : Nat) (x2s_c : Nat) (x2s_g : Nat) (x2s_r : Nat) (x2s_k : Nat) (x2s_b : Nat) (fa : Nat → Int32) (ou : Nat) (ha0 : fa 0 = 0) (ha1 : fa 1 = 0) (ha2 : fa 2 = 10) (ha3 : fa 3 = 10) (ha4 : fa 4 = 3) (hv : xs 1 = 6) (H : Heap) (locs : List Loc) (hw : kW γ A [(x, .inr (10, [.ref x0, .ref x1, .ref x2, .ref x3, .ref x4, .ref x5, .ref x6, .ref x7, .ref x8, .ref x9, .ref x10])), (z, .inr (11, [.int 0, .int 0, .ref z2, .int 0, .int 0, .int 0, .int 0, .long 0, .int 0, .int 0, .ref z10, .ref z11, .ref z12, .ref z13, .ref z14, .ref z15, .ref z16, .ref z17, .ref z18, .ref z19, .int 0, .int 0, .ref z22, .ref z23, .ref z24, .ref z25, .ref z26, .ref z27, .ref z28, .ref z29, .ref z30, .ref z31, .ref z32, .ref z33, .int 0, .long 0, .ref z36, .ref z37, .ref z38, .ref z39, .ref z40, .ref z41, .ref z42, .ref z43, .ref z44, .ref z45, .ref z46, .ref z47, .ref z48, .int 0, .int 10, .int 0, .int 0, .int 0, .int 0, .ref z55, .ref z56, .int 0, .int 0, .ref z59, .ref z60, .ref z61, .int 0, .long 0])), (x2, .inr (3, [.ref x2s, .ref x2y, .ref x2q, .int 0, .int 0, .int 0])), (x2s, .inr (7, [.ref x2s_l, .ref x2s_c, .ref x2s_g, .ref x2s_r, .ref x2s_k, .ref x2s_b, .int 0, .int 0, .int 0])), (z10, .inl (γ.2.1 0, 10, .inl fa)), (z43, .inl (γ.2.1 0, 133, .inl (fun _ => 0)))] s H locs) (ls : Array Slot) (hl : lv_has ls 7 [(4, .int 0), (3, .ref ou), (2, .ref z), (1, .ref x), (0, .ref b)]) : W p l e room_1 s m [Value.ref b].toArray below meth c H locs 251 13922 (lw_Z below #[Value.ref b] s) (F0 m 1345 ls []) := by
  have hx := hC.1
  have hb := hC.2.1
  refine lv_aload_n hx hb dL_law_1345 rfl (lv_at hl 3 rfl) ?_
  refine lv_aload_n hx hb dL_law_1346 rfl (lv_at hl 4 rfl) ?_
  refine lv_iload hx hb dL_law_1347 (lv_at hl 0 rfl) ?_
  refine lv_iconst (v := 1) hx hb dL_law_1349 (by decide) ?_
  refine lv_iadd hx hb dL_law_1350 ?_
  refine lv_topi (fun x_2491 ex_2491 => ?_)
  obtain rfl : x_2491 = 1 := ex_2491.trans (by decide)
  refine va_sld hx hb hX hbl hbA hw.2.2 (k_in0 (by decide)) dL_law_1351 ?_
  refine lv_topi (fun x_2492 ex_2492 => ?_)
  obtain rfl : x_2492 = 6 := (show x_2492 = xs 1 from ex_2492).trans hv
  refine k_V (wr := [(z, .inr (11, [.int 0, .int 0, .ref z2, .int 0, .int 0, .int 0, .int 0, .long 0, .int 0, .int 0, .ref z10, .ref z11, .ref z12, .ref z13, .ref z14, .ref z15, .ref z16, .ref z17, .ref z18, .ref z19, .int 0, .int 0, .ref z22, .ref z23, .ref z24, .ref z25, .ref z26, .ref z27, .ref z28, .ref z29, .ref z30, .ref z31, .ref z32, .ref z33, .int 0, .long 0, .ref z36, .ref z37, .ref z38, .ref z39, .ref z40, .ref z41, .ref z42, .ref z43, .ref z44, .ref z45, .ref z46, .ref z47, .ref z48, .int 0, .int 10, .int 0, .int 0, .int 0, .int 0, .ref z55, .ref z56, .int 0, .int 0, .ref z59, .ref z60, .ref z61, .int 0, .long 0])), (z10, .inl (γ.2.1 0, 10, .inl fa)), (z43, .inl (γ.2.1 0, 133, .inl (fun _ => 0)))]) 1 gw_739 gw_740 gw_741 gw_1 gw_742 hd_X11_count hC hw (c_X11_count_6 γ l x x0 x1 x2 x3 x4 x5 x6 x7 x8 x9 x10 x2s x2y x2q x2s_l x2s_c x2s_g x2s_r x2s_k x2s_b) ⟨by decide, by decide⟩ ⟨by decide, by decide⟩ hl.1 rfl 0 rfl rfl rfl (Nat.le_of_ble_eq_true rfl) [0, 2, 3] [1, 4, 5] rfl rfl rfl rfl (by decide) dL_law_1352 (fun r w1 H locs hq hw => ?_)
  obtain ⟨rfl, rfl⟩ := hq
  have hw : kW γ A [(z, .inr (11, [.int 0, .int 0, .ref z2, .int 0, .int 0, .int 0, .int 0, .long 0, .int 0, .int 0, .ref z10, .ref z11, .ref z12, .ref z13, .ref z14, .ref z15, .ref z16, .ref z17, .ref z18, .ref z19, .int 0, .int 0, .ref z22, .ref z23, .ref z24, .ref z25, .ref z26, .ref z27, .ref z28, .ref z29, .ref z30, .ref z31, .ref z32, .ref z33, .int 0, .long 0, .ref z36, .ref z37, .ref z38, .ref z39, .ref z40, .ref z41, .ref z42, .ref z43, .ref z44, .ref z45, .ref z46, .ref z47, .ref z48, .int 0, .int 10, .int 0, .int 0, .int 0, .int 0, .ref z55, .ref z56, .int 0, .int 0, .ref z59, .ref z60, .ref z61, .int 0, .long 0])), (z10, .inl (γ.2.1 0, 10, .inl fa)), (z43, .inl (γ.2.1 0, 133, .inl (fun _ => 0)))] s H locs := hw
  refine W.eq (g2 := F0 m 1355 ls [.int 0]) rfl ?_
  refine lv_aload_n hx hb dL_law_1355 rfl (lv_at hl 2 rfl) ?_
  refine lv_aload_n hx hb dL_law_1356 rfl (lv_at hl 4 rfl) ?_
  refine lv_iload hx hb dL_law_1357 (lv_at hl 0 rfl) ?_
  refine lv_iconst (v := 1) hx hb dL_law_1359 (by decide) ?_
  refine lv_iadd hx hb dL_law_1360 ?_
  refine lv_topi (fun x_2493 ex_2493 => ?_)
  obtain rfl : x_2493 = 1 := ex_2493.trans (by decide)
  refine va_sld hx hb hX hbl hbA hw.2.2 (k_in0 (by decide)) dL_law_1361 ?_
  refine lv_topi (fun x_2494 ex_2494 => ?_)
  obtain rfl : x_2494 = 6 := (show x_2494 = xs 1 from ex_2494).trans hv
  refine k_V (wr := []) 1 gw_1811 gw_1812 gw_1813 gw_15 gw_1814 hd_X12_count hC hw (c_X12_count_6 γ l z z2 z10 z11 z12 z13 z14 z15 z16 z17 z18 z19 z22 z23 z24 z25 z26 z27 z28 z29 z30 z31 z32 z33 z36 z37 z38 z39 z40 z41 z42 z43 z44 z45 z46 z47 z48 z55 z56 z59 z60 z61 fa ha0 ha1 ha2 ha3 ha4) ⟨by decide, by decide⟩ ⟨by decide, by decide⟩ hl.1 rfl 0 rfl rfl rfl (Nat.le_of_ble_eq_true rfl) [0, 1, 2] [] rfl rfl rfl rfl (by decide) dL_law_1362 (fun r w1 H locs hq hw => ?_)
  obtain ⟨rfl, rfl⟩ := hq
  have hw : kW γ A [] s H locs := hw
  refine W.eq (g2 := F0 m 1365 ls [.int 0, .int 0]) rfl ?_
  refine lv_icmp_eq (tgt := 1370) hx hb dL_law_1365 (by decide) (fun _ => ?_) (fun h => absurd (by decide) h)
  exact law_end hC hr hlocks hX hbl hbA hAs hl9 _ _ (kW.sub hw [] rfl rfl) (by decide) (by decide) _ (lv_sub hl [0, 4] rfl)

set_option maxHeartbeats 4000000 in
set_option maxRecDepth 100000 in
theorem lc_31_7 {γ : kΓ} {l : Launch} {p : Program} {e : Env} {s : State} {m : MethodId} {below : List Frame} {meth : Method} {c : Code} {A : Nat → Prop} {b : Nat} {xs : Nat → Int32} (hC : kC γ p s m [Value.ref b].toArray c code 7 RL A) (hr : meth.sig.returnType = ret) (hlocks : meth.locks = false) (hX : va_X b 7 xs s s.heap) (hbl : b < s.heap.size) (hbA : ¬ A b) (hAs : ∀ q, A q → s.heap.size ≤ q) (hl9 : l.stackTraces = false) (x : Nat) (x0 : Nat) (x1 : Nat) (x2 : Nat) (x3 : Nat) (x4 : Nat) (x5 : Nat) (x6 : Nat) (x7 : Nat) (x8 : Nat) (x9 : Nat) (x10 : Nat) (z : Nat) (z2 : Nat) (z10 : Nat) (z11 : Nat) (z12 : Nat) (z13 : Nat) (z14 : Nat) (z15 : Nat) (z16 : Nat) (z17 : Nat) (z18 : Nat) (z19 : Nat) (z22 : Nat) (z23 : Nat) (z24 : Nat) (z25 : Nat) (z26 : Nat) (z27 : Nat) (z28 : Nat) (z29 : Nat) (z30 : Nat) (z31 : Nat) (z32 : Nat) (z33 : Nat) (z36 : Nat) (z37 : Nat) (z38 : Nat) (z39 : Nat) (z40 : Nat) (z41 : Nat) (z42 : Nat) (z43 : Nat) (z44 : Nat) (z45 : Nat) (z46 : Nat) (z47 : Nat) (z48 : Nat) (z55 : Nat) (z56 : Nat) (z59 : Nat) (z60 : Nat) (z61 : Nat) (x90 : Nat) (x91 : Nat) (x92 : Nat) (x93 : Nat) (x94 : Nat) (x95 : Nat) (x96 : Nat) (x97 : Nat) (fa : Nat → Int32) (ou : Nat) (ha0 : fa 0 = 0) (ha1 : fa 1 = 0) (ha2 : fa 2 = 10) (ha3 : fa 3 = 10) (ha4 : fa 4 = 3) (hv : xs 1 = 7) (H : Heap) (locs : List Loc) (hw : kW γ A [(x, .inr (10, [.ref x0, .ref x1, .ref x2, .ref x3, .ref x4, .ref x5, .ref x6, .ref x7, .ref x8, .ref x9, .ref x10])), (z, .inr (11, [.int 0, .int 0, .ref z2, .int 0, .int 0, .int 0, .int 0, .long 0, .int 0, .int 0, .ref z10, .ref z11, .ref z12, .ref z13, .ref z14, .ref z15, .ref z16, .ref z17, .ref z18, .ref z19, .int 0, .int 0, .ref z22, .ref z23, .ref z24, .ref z25, .ref z26, .ref z27, .ref z28, .ref z29, .ref z30, .ref z31, .ref z32, .ref z33, .int 0, .long 0, .ref z36, .ref z37, .ref z38, .ref z39, .ref z40, .ref z41, .ref z42, .ref z43, .ref z44, .ref z45, .ref z46, .ref z47, .ref z48, .int 0, .int 10, .int 0, .int 0, .int 0, .int 0, .ref z55, .ref z56, .int 0, .int 0, .ref z59, .ref z60, .ref z61, .int 0, .long 0])), (x9, .inr (0, [.ref x90, .ref x91, .ref x92, .ref x93, .ref x94, .ref x95, .ref x96, .ref x97, .int 0, .int 0, .int 10, .int 10, .int 3, .int 0, .int 0, .int 0, .int 0, .int 0, .int 0])), (z10, .inl (γ.2.1 0, 10, .inl fa))] s H locs) (ls : Array Slot) (hl : lv_has ls 7 [(4, .int 0), (3, .ref ou), (2, .ref z), (1, .ref x), (0, .ref b)]) : W p l e room_1 s m [Value.ref b].toArray below meth c H locs 251 13922 (lw_Z below #[Value.ref b] s) (F0 m 1345 ls []) := by
  have hx := hC.1
  have hb := hC.2.1
  refine lv_aload_n hx hb dL_law_1345 rfl (lv_at hl 3 rfl) ?_
  refine lv_aload_n hx hb dL_law_1346 rfl (lv_at hl 4 rfl) ?_
  refine lv_iload hx hb dL_law_1347 (lv_at hl 0 rfl) ?_
  refine lv_iconst (v := 1) hx hb dL_law_1349 (by decide) ?_
  refine lv_iadd hx hb dL_law_1350 ?_
  refine lv_topi (fun x_2495 ex_2495 => ?_)
  obtain rfl : x_2495 = 1 := ex_2495.trans (by decide)
  refine va_sld hx hb hX hbl hbA hw.2.2 (k_in0 (by decide)) dL_law_1351 ?_
  refine lv_topi (fun x_2496 ex_2496 => ?_)
  obtain rfl : x_2496 = 7 := (show x_2496 = xs 1 from ex_2496).trans hv
  refine k_V (wr := [(z, .inr (11, [.int 0, .int 0, .ref z2, .int 0, .int 0, .int 0, .int 0, .long 0, .int 0, .int 0, .ref z10, .ref z11, .ref z12, .ref z13, .ref z14, .ref z15, .ref z16, .ref z17, .ref z18, .ref z19, .int 0, .int 0, .ref z22, .ref z23, .ref z24, .ref z25, .ref z26, .ref z27, .ref z28, .ref z29, .ref z30, .ref z31, .ref z32, .ref z33, .int 0, .long 0, .ref z36, .ref z37, .ref z38, .ref z39, .ref z40, .ref z41, .ref z42, .ref z43, .ref z44, .ref z45, .ref z46, .ref z47, .ref z48, .int 0, .int 10, .int 0, .int 0, .int 0, .int 0, .ref z55, .ref z56, .int 0, .int 0, .ref z59, .ref z60, .ref z61, .int 0, .long 0])), (z10, .inl (γ.2.1 0, 10, .inl fa))]) 1 gw_739 gw_740 gw_741 gw_1 gw_742 hd_X11_count hC hw (c_X11_count_7 γ l x x0 x1 x2 x3 x4 x5 x6 x7 x8 x9 x10 x90 x91 x92 x93 x94 x95 x96 x97) ⟨by decide, by decide⟩ ⟨by decide, by decide⟩ hl.1 rfl 0 rfl rfl rfl (Nat.le_of_ble_eq_true rfl) [0, 2] [1, 3] rfl rfl rfl rfl (by decide) dL_law_1352 (fun r w1 H locs hq hw => ?_)
  obtain ⟨rfl, rfl⟩ := hq
  have hw : kW γ A [(z, .inr (11, [.int 0, .int 0, .ref z2, .int 0, .int 0, .int 0, .int 0, .long 0, .int 0, .int 0, .ref z10, .ref z11, .ref z12, .ref z13, .ref z14, .ref z15, .ref z16, .ref z17, .ref z18, .ref z19, .int 0, .int 0, .ref z22, .ref z23, .ref z24, .ref z25, .ref z26, .ref z27, .ref z28, .ref z29, .ref z30, .ref z31, .ref z32, .ref z33, .int 0, .long 0, .ref z36, .ref z37, .ref z38, .ref z39, .ref z40, .ref z41, .ref z42, .ref z43, .ref z44, .ref z45, .ref z46, .ref z47, .ref z48, .int 0, .int 10, .int 0, .int 0, .int 0, .int 0, .ref z55, .ref z56, .int 0, .int 0, .ref z59, .ref z60, .ref z61, .int 0, .long 0])), (z10, .inl (γ.2.1 0, 10, .inl fa))] s H locs := hw
  refine W.eq (g2 := F0 m 1355 ls [.int 0]) rfl ?_
  refine lv_aload_n hx hb dL_law_1355 rfl (lv_at hl 2 rfl) ?_
  refine lv_aload_n hx hb dL_law_1356 rfl (lv_at hl 4 rfl) ?_
  refine lv_iload hx hb dL_law_1357 (lv_at hl 0 rfl) ?_
  refine lv_iconst (v := 1) hx hb dL_law_1359 (by decide) ?_
  refine lv_iadd hx hb dL_law_1360 ?_
  refine lv_topi (fun x_2497 ex_2497 => ?_)
  obtain rfl : x_2497 = 1 := ex_2497.trans (by decide)
  refine va_sld hx hb hX hbl hbA hw.2.2 (k_in0 (by decide)) dL_law_1361 ?_
  refine lv_topi (fun x_2498 ex_2498 => ?_)
  obtain rfl : x_2498 = 7 := (show x_2498 = xs 1 from ex_2498).trans hv
  refine k_V (wr := []) 1 gw_1811 gw_1812 gw_1813 gw_15 gw_1814 hd_X12_count hC hw (c_X12_count_7 γ l z z2 z10 z11 z12 z13 z14 z15 z16 z17 z18 z19 z22 z23 z24 z25 z26 z27 z28 z29 z30 z31 z32 z33 z36 z37 z38 z39 z40 z41 z42 z43 z44 z45 z46 z47 z48 z55 z56 z59 z60 z61 fa ha0 ha1 ha2 ha3 ha4) ⟨by decide, by decide⟩ ⟨by decide, by decide⟩ hl.1 rfl 0 rfl rfl rfl (Nat.le_of_ble_eq_true rfl) [0, 1] [] rfl rfl rfl rfl (by decide) dL_law_1362 (fun r w1 H locs hq hw => ?_)
  obtain ⟨rfl, rfl⟩ := hq
  have hw : kW γ A [] s H locs := hw
  refine W.eq (g2 := F0 m 1365 ls [.int 0, .int 0]) rfl ?_
  refine lv_icmp_eq (tgt := 1370) hx hb dL_law_1365 (by decide) (fun _ => ?_) (fun h => absurd (by decide) h)
  exact law_end hC hr hlocks hX hbl hbA hAs hl9 _ _ (kW.sub hw [] rfl rfl) (by decide) (by decide) _ (lv_sub hl [0, 4] rfl)

set_option maxHeartbeats 4000000 in
set_option maxRecDepth 100000 in
theorem lc_31_8 {γ : kΓ} {l : Launch} {p : Program} {e : Env} {s : State} {m : MethodId} {below : List Frame} {meth : Method} {c : Code} {A : Nat → Prop} {b : Nat} {xs : Nat → Int32} (hC : kC γ p s m [Value.ref b].toArray c code 7 RL A) (hr : meth.sig.returnType = ret) (hlocks : meth.locks = false) (hX : va_X b 7 xs s s.heap) (hbl : b < s.heap.size) (hbA : ¬ A b) (hAs : ∀ q, A q → s.heap.size ≤ q) (hl9 : l.stackTraces = false) (x : Nat) (x0 : Nat) (x1 : Nat) (x2 : Nat) (x3 : Nat) (x4 : Nat) (x5 : Nat) (x6 : Nat) (x7 : Nat) (x8 : Nat) (x9 : Nat) (x10 : Nat) (z : Nat) (z2 : Nat) (z10 : Nat) (z11 : Nat) (z12 : Nat) (z13 : Nat) (z14 : Nat) (z15 : Nat) (z16 : Nat) (z17 : Nat) (z18 : Nat) (z19 : Nat) (z22 : Nat) (z23 : Nat) (z24 : Nat) (z25 : Nat) (z26 : Nat) (z27 : Nat) (z28 : Nat) (z29 : Nat) (z30 : Nat) (z31 : Nat) (z32 : Nat) (z33 : Nat) (z36 : Nat) (z37 : Nat) (z38 : Nat) (z39 : Nat) (z40 : Nat) (z41 : Nat) (z42 : Nat) (z43 : Nat) (z44 : Nat) (z45 : Nat) (z46 : Nat) (z47 : Nat) (z48 : Nat) (z55 : Nat) (z56 : Nat) (z59 : Nat) (z60 : Nat) (z61 : Nat) (x2s : Nat) (x2y : Nat) (x2q : Nat) (fa : Nat → Int32) (ou : Nat) (ha0 : fa 0 = 0) (ha1 : fa 1 = 0) (ha2 : fa 2 = 10) (ha3 : fa 3 = 10) (ha4 : fa 4 = 3) (hv : xs 1 = 8) (H : Heap) (locs : List Loc) (hw : kW γ A [(x, .inr (10, [.ref x0, .ref x1, .ref x2, .ref x3, .ref x4, .ref x5, .ref x6, .ref x7, .ref x8, .ref x9, .ref x10])), (z, .inr (11, [.int 0, .int 0, .ref z2, .int 0, .int 0, .int 0, .int 0, .long 0, .int 0, .int 0, .ref z10, .ref z11, .ref z12, .ref z13, .ref z14, .ref z15, .ref z16, .ref z17, .ref z18, .ref z19, .int 0, .int 0, .ref z22, .ref z23, .ref z24, .ref z25, .ref z26, .ref z27, .ref z28, .ref z29, .ref z30, .ref z31, .ref z32, .ref z33, .int 0, .long 0, .ref z36, .ref z37, .ref z38, .ref z39, .ref z40, .ref z41, .ref z42, .ref z43, .ref z44, .ref z45, .ref z46, .ref z47, .ref z48, .int 0, .int 10, .int 0, .int 0, .int 0, .int 0, .ref z55, .ref z56, .int 0, .int 0, .ref z59, .ref z60, .ref z61, .int 0, .long 0])), (x2, .inr (3, [.ref x2s, .ref x2y, .ref x2q, .int 0, .int 0, .int 0])), (z10, .inl (γ.2.1 0, 10, .inl fa)), (z36, .inl (γ.2.1 0, 6, .inl (fun _ => 0)))] s H locs) (ls : Array Slot) (hl : lv_has ls 7 [(4, .int 0), (3, .ref ou), (2, .ref z), (1, .ref x), (0, .ref b)]) : W p l e room_1 s m [Value.ref b].toArray below meth c H locs 251 13922 (lw_Z below #[Value.ref b] s) (F0 m 1345 ls []) := by
  have hx := hC.1
  have hb := hC.2.1
  refine lv_aload_n hx hb dL_law_1345 rfl (lv_at hl 3 rfl) ?_
  refine lv_aload_n hx hb dL_law_1346 rfl (lv_at hl 4 rfl) ?_
  refine lv_iload hx hb dL_law_1347 (lv_at hl 0 rfl) ?_
  refine lv_iconst (v := 1) hx hb dL_law_1349 (by decide) ?_
  refine lv_iadd hx hb dL_law_1350 ?_
  refine lv_topi (fun x_2499 ex_2499 => ?_)
  obtain rfl : x_2499 = 1 := ex_2499.trans (by decide)
  refine va_sld hx hb hX hbl hbA hw.2.2 (k_in0 (by decide)) dL_law_1351 ?_
  refine lv_topi (fun x_2500 ex_2500 => ?_)
  obtain rfl : x_2500 = 8 := (show x_2500 = xs 1 from ex_2500).trans hv
  refine k_V (wr := [(z, .inr (11, [.int 0, .int 0, .ref z2, .int 0, .int 0, .int 0, .int 0, .long 0, .int 0, .int 0, .ref z10, .ref z11, .ref z12, .ref z13, .ref z14, .ref z15, .ref z16, .ref z17, .ref z18, .ref z19, .int 0, .int 0, .ref z22, .ref z23, .ref z24, .ref z25, .ref z26, .ref z27, .ref z28, .ref z29, .ref z30, .ref z31, .ref z32, .ref z33, .int 0, .long 0, .ref z36, .ref z37, .ref z38, .ref z39, .ref z40, .ref z41, .ref z42, .ref z43, .ref z44, .ref z45, .ref z46, .ref z47, .ref z48, .int 0, .int 10, .int 0, .int 0, .int 0, .int 0, .ref z55, .ref z56, .int 0, .int 0, .ref z59, .ref z60, .ref z61, .int 0, .long 0])), (z10, .inl (γ.2.1 0, 10, .inl fa)), (z36, .inl (γ.2.1 0, 6, .inl (fun _ => 0)))]) 1 gw_739 gw_740 gw_741 gw_1 gw_742 hd_X11_count hC hw (c_X11_count_8 γ l x x0 x1 x2 x3 x4 x5 x6 x7 x8 x9 x10 x2s x2y x2q) ⟨by decide, by decide⟩ ⟨by decide, by decide⟩ hl.1 rfl 0 rfl rfl rfl (Nat.le_of_ble_eq_true rfl) [0, 2] [1, 3, 4] rfl rfl rfl rfl (by decide) dL_law_1352 (fun r w1 H locs hq hw => ?_)
  obtain ⟨rfl, rfl⟩ := hq
  have hw : kW γ A [(z, .inr (11, [.int 0, .int 0, .ref z2, .int 0, .int 0, .int 0, .int 0, .long 0, .int 0, .int 0, .ref z10, .ref z11, .ref z12, .ref z13, .ref z14, .ref z15, .ref z16, .ref z17, .ref z18, .ref z19, .int 0, .int 0, .ref z22, .ref z23, .ref z24, .ref z25, .ref z26, .ref z27, .ref z28, .ref z29, .ref z30, .ref z31, .ref z32, .ref z33, .int 0, .long 0, .ref z36, .ref z37, .ref z38, .ref z39, .ref z40, .ref z41, .ref z42, .ref z43, .ref z44, .ref z45, .ref z46, .ref z47, .ref z48, .int 0, .int 10, .int 0, .int 0, .int 0, .int 0, .ref z55, .ref z56, .int 0, .int 0, .ref z59, .ref z60, .ref z61, .int 0, .long 0])), (z10, .inl (γ.2.1 0, 10, .inl fa)), (z36, .inl (γ.2.1 0, 6, .inl (fun _ => 0)))] s H locs := hw
  refine W.eq (g2 := F0 m 1355 ls [.int 0]) rfl ?_
  refine lv_aload_n hx hb dL_law_1355 rfl (lv_at hl 2 rfl) ?_
  refine lv_aload_n hx hb dL_law_1356 rfl (lv_at hl 4 rfl) ?_
  refine lv_iload hx hb dL_law_1357 (lv_at hl 0 rfl) ?_
  refine lv_iconst (v := 1) hx hb dL_law_1359 (by decide) ?_
  refine lv_iadd hx hb dL_law_1360 ?_
  refine lv_topi (fun x_2501 ex_2501 => ?_)
  obtain rfl : x_2501 = 1 := ex_2501.trans (by decide)
  refine va_sld hx hb hX hbl hbA hw.2.2 (k_in0 (by decide)) dL_law_1361 ?_
  refine lv_topi (fun x_2502 ex_2502 => ?_)
  obtain rfl : x_2502 = 8 := (show x_2502 = xs 1 from ex_2502).trans hv
  refine k_V (wr := []) 1 gw_1811 gw_1812 gw_1813 gw_15 gw_1814 hd_X12_count hC hw (c_X12_count_8 γ l z z2 z10 z11 z12 z13 z14 z15 z16 z17 z18 z19 z22 z23 z24 z25 z26 z27 z28 z29 z30 z31 z32 z33 z36 z37 z38 z39 z40 z41 z42 z43 z44 z45 z46 z47 z48 z55 z56 z59 z60 z61 fa ha0 ha1 ha2 ha3 ha4) ⟨by decide, by decide⟩ ⟨by decide, by decide⟩ hl.1 rfl 0 rfl rfl rfl (Nat.le_of_ble_eq_true rfl) [0, 1, 2] [] rfl rfl rfl rfl (by decide) dL_law_1362 (fun r w1 H locs hq hw => ?_)
  obtain ⟨rfl, rfl⟩ := hq
  have hw : kW γ A [] s H locs := hw
  refine W.eq (g2 := F0 m 1365 ls [.int 0, .int 0]) rfl ?_
  refine lv_icmp_eq (tgt := 1370) hx hb dL_law_1365 (by decide) (fun _ => ?_) (fun h => absurd (by decide) h)
  exact law_end hC hr hlocks hX hbl hbA hAs hl9 _ _ (kW.sub hw [] rfl rfl) (by decide) (by decide) _ (lv_sub hl [0, 4] rfl)

set_option maxHeartbeats 4000000 in
set_option maxRecDepth 100000 in
theorem lc_31_9 {γ : kΓ} {l : Launch} {p : Program} {e : Env} {s : State} {m : MethodId} {below : List Frame} {meth : Method} {c : Code} {A : Nat → Prop} {b : Nat} {xs : Nat → Int32} (hC : kC γ p s m [Value.ref b].toArray c code 7 RL A) (hr : meth.sig.returnType = ret) (hlocks : meth.locks = false) (hX : va_X b 7 xs s s.heap) (hbl : b < s.heap.size) (hbA : ¬ A b) (hAs : ∀ q, A q → s.heap.size ≤ q) (hl9 : l.stackTraces = false) (x : Nat) (x0 : Nat) (x1 : Nat) (x2 : Nat) (x3 : Nat) (x4 : Nat) (x5 : Nat) (x6 : Nat) (x7 : Nat) (x8 : Nat) (x9 : Nat) (x10 : Nat) (z : Nat) (z2 : Nat) (z10 : Nat) (z11 : Nat) (z12 : Nat) (z13 : Nat) (z14 : Nat) (z15 : Nat) (z16 : Nat) (z17 : Nat) (z18 : Nat) (z19 : Nat) (z22 : Nat) (z23 : Nat) (z24 : Nat) (z25 : Nat) (z26 : Nat) (z27 : Nat) (z28 : Nat) (z29 : Nat) (z30 : Nat) (z31 : Nat) (z32 : Nat) (z33 : Nat) (z36 : Nat) (z37 : Nat) (z38 : Nat) (z39 : Nat) (z40 : Nat) (z41 : Nat) (z42 : Nat) (z43 : Nat) (z44 : Nat) (z45 : Nat) (z46 : Nat) (z47 : Nat) (z48 : Nat) (z55 : Nat) (z56 : Nat) (z59 : Nat) (z60 : Nat) (z61 : Nat) (x2s : Nat) (x2y : Nat) (x2q : Nat) (fa : Nat → Int32) (ou : Nat) (ha0 : fa 0 = 0) (ha1 : fa 1 = 0) (ha2 : fa 2 = 10) (ha3 : fa 3 = 10) (ha4 : fa 4 = 3) (hv : xs 1 = 9) (H : Heap) (locs : List Loc) (hw : kW γ A [(x, .inr (10, [.ref x0, .ref x1, .ref x2, .ref x3, .ref x4, .ref x5, .ref x6, .ref x7, .ref x8, .ref x9, .ref x10])), (z, .inr (11, [.int 0, .int 0, .ref z2, .int 0, .int 0, .int 0, .int 0, .long 0, .int 0, .int 0, .ref z10, .ref z11, .ref z12, .ref z13, .ref z14, .ref z15, .ref z16, .ref z17, .ref z18, .ref z19, .int 0, .int 0, .ref z22, .ref z23, .ref z24, .ref z25, .ref z26, .ref z27, .ref z28, .ref z29, .ref z30, .ref z31, .ref z32, .ref z33, .int 0, .long 0, .ref z36, .ref z37, .ref z38, .ref z39, .ref z40, .ref z41, .ref z42, .ref z43, .ref z44, .ref z45, .ref z46, .ref z47, .ref z48, .int 0, .int 10, .int 0, .int 0, .int 0, .int 0, .ref z55, .ref z56, .int 0, .int 0, .ref z59, .ref z60, .ref z61, .int 0, .long 0])), (x2, .inr (3, [.ref x2s, .ref x2y, .ref x2q, .int 0, .int 0, .int 0])), (z10, .inl (γ.2.1 0, 10, .inl fa)), (z40, .inl (γ.2.1 0, 5, .inl (fun _ => 0)))] s H locs) (ls : Array Slot) (hl : lv_has ls 7 [(4, .int 0), (3, .ref ou), (2, .ref z), (1, .ref x), (0, .ref b)]) : W p l e room_1 s m [Value.ref b].toArray below meth c H locs 251 13922 (lw_Z below #[Value.ref b] s) (F0 m 1345 ls []) := by
  have hx := hC.1
  have hb := hC.2.1
  refine lv_aload_n hx hb dL_law_1345 rfl (lv_at hl 3 rfl) ?_
  refine lv_aload_n hx hb dL_law_1346 rfl (lv_at hl 4 rfl) ?_
  refine lv_iload hx hb dL_law_1347 (lv_at hl 0 rfl) ?_
  refine lv_iconst (v := 1) hx hb dL_law_1349 (by decide) ?_
  refine lv_iadd hx hb dL_law_1350 ?_
  refine lv_topi (fun x_2503 ex_2503 => ?_)
  obtain rfl : x_2503 = 1 := ex_2503.trans (by decide)
  refine va_sld hx hb hX hbl hbA hw.2.2 (k_in0 (by decide)) dL_law_1351 ?_
  refine lv_topi (fun x_2504 ex_2504 => ?_)
  obtain rfl : x_2504 = 9 := (show x_2504 = xs 1 from ex_2504).trans hv
  refine k_V (wr := [(z, .inr (11, [.int 0, .int 0, .ref z2, .int 0, .int 0, .int 0, .int 0, .long 0, .int 0, .int 0, .ref z10, .ref z11, .ref z12, .ref z13, .ref z14, .ref z15, .ref z16, .ref z17, .ref z18, .ref z19, .int 0, .int 0, .ref z22, .ref z23, .ref z24, .ref z25, .ref z26, .ref z27, .ref z28, .ref z29, .ref z30, .ref z31, .ref z32, .ref z33, .int 0, .long 0, .ref z36, .ref z37, .ref z38, .ref z39, .ref z40, .ref z41, .ref z42, .ref z43, .ref z44, .ref z45, .ref z46, .ref z47, .ref z48, .int 0, .int 10, .int 0, .int 0, .int 0, .int 0, .ref z55, .ref z56, .int 0, .int 0, .ref z59, .ref z60, .ref z61, .int 0, .long 0])), (z10, .inl (γ.2.1 0, 10, .inl fa)), (z40, .inl (γ.2.1 0, 5, .inl (fun _ => 0)))]) 1 gw_739 gw_740 gw_741 gw_1 gw_742 hd_X11_count hC hw (c_X11_count_9 γ l x x0 x1 x2 x3 x4 x5 x6 x7 x8 x9 x10 x2s x2y x2q) ⟨by decide, by decide⟩ ⟨by decide, by decide⟩ hl.1 rfl 0 rfl rfl rfl (Nat.le_of_ble_eq_true rfl) [0, 2] [1, 3, 4] rfl rfl rfl rfl (by decide) dL_law_1352 (fun r w1 H locs hq hw => ?_)
  obtain ⟨rfl, rfl⟩ := hq
  have hw : kW γ A [(z, .inr (11, [.int 0, .int 0, .ref z2, .int 0, .int 0, .int 0, .int 0, .long 0, .int 0, .int 0, .ref z10, .ref z11, .ref z12, .ref z13, .ref z14, .ref z15, .ref z16, .ref z17, .ref z18, .ref z19, .int 0, .int 0, .ref z22, .ref z23, .ref z24, .ref z25, .ref z26, .ref z27, .ref z28, .ref z29, .ref z30, .ref z31, .ref z32, .ref z33, .int 0, .long 0, .ref z36, .ref z37, .ref z38, .ref z39, .ref z40, .ref z41, .ref z42, .ref z43, .ref z44, .ref z45, .ref z46, .ref z47, .ref z48, .int 0, .int 10, .int 0, .int 0, .int 0, .int 0, .ref z55, .ref z56, .int 0, .int 0, .ref z59, .ref z60, .ref z61, .int 0, .long 0])), (z10, .inl (γ.2.1 0, 10, .inl fa)), (z40, .inl (γ.2.1 0, 5, .inl (fun _ => 0)))] s H locs := hw
  refine W.eq (g2 := F0 m 1355 ls [.int 0]) rfl ?_
  refine lv_aload_n hx hb dL_law_1355 rfl (lv_at hl 2 rfl) ?_
  refine lv_aload_n hx hb dL_law_1356 rfl (lv_at hl 4 rfl) ?_
  refine lv_iload hx hb dL_law_1357 (lv_at hl 0 rfl) ?_
  refine lv_iconst (v := 1) hx hb dL_law_1359 (by decide) ?_
  refine lv_iadd hx hb dL_law_1360 ?_
  refine lv_topi (fun x_2505 ex_2505 => ?_)
  obtain rfl : x_2505 = 1 := ex_2505.trans (by decide)
  refine va_sld hx hb hX hbl hbA hw.2.2 (k_in0 (by decide)) dL_law_1361 ?_
  refine lv_topi (fun x_2506 ex_2506 => ?_)
  obtain rfl : x_2506 = 9 := (show x_2506 = xs 1 from ex_2506).trans hv
  refine k_V (wr := []) 1 gw_1811 gw_1812 gw_1813 gw_15 gw_1814 hd_X12_count hC hw (c_X12_count_9 γ l z z2 z10 z11 z12 z13 z14 z15 z16 z17 z18 z19 z22 z23 z24 z25 z26 z27 z28 z29 z30 z31 z32 z33 z36 z37 z38 z39 z40 z41 z42 z43 z44 z45 z46 z47 z48 z55 z56 z59 z60 z61 fa ha0 ha1 ha2 ha3 ha4) ⟨by decide, by decide⟩ ⟨by decide, by decide⟩ hl.1 rfl 0 rfl rfl rfl (Nat.le_of_ble_eq_true rfl) [0, 1, 2] [] rfl rfl rfl rfl (by decide) dL_law_1362 (fun r w1 H locs hq hw => ?_)
  obtain ⟨rfl, rfl⟩ := hq
  have hw : kW γ A [] s H locs := hw
  refine W.eq (g2 := F0 m 1365 ls [.int 0, .int 0]) rfl ?_
  refine lv_icmp_eq (tgt := 1370) hx hb dL_law_1365 (by decide) (fun _ => ?_) (fun h => absurd (by decide) h)
  exact law_end hC hr hlocks hX hbl hbA hAs hl9 _ _ (kW.sub hw [] rfl rfl) (by decide) (by decide) _ (lv_sub hl [0, 4] rfl)

set_option maxHeartbeats 4000000 in
set_option maxRecDepth 100000 in
theorem lc_31_10 {γ : kΓ} {l : Launch} {p : Program} {e : Env} {s : State} {m : MethodId} {below : List Frame} {meth : Method} {c : Code} {A : Nat → Prop} {b : Nat} {xs : Nat → Int32} (hC : kC γ p s m [Value.ref b].toArray c code 7 RL A) (hr : meth.sig.returnType = ret) (hlocks : meth.locks = false) (hX : va_X b 7 xs s s.heap) (hbl : b < s.heap.size) (hbA : ¬ A b) (hAs : ∀ q, A q → s.heap.size ≤ q) (hl9 : l.stackTraces = false) (x : Nat) (x0 : Nat) (x1 : Nat) (x2 : Nat) (x3 : Nat) (x4 : Nat) (x5 : Nat) (x6 : Nat) (x7 : Nat) (x8 : Nat) (x9 : Nat) (x10 : Nat) (z : Nat) (z2 : Nat) (z10 : Nat) (z11 : Nat) (z12 : Nat) (z13 : Nat) (z14 : Nat) (z15 : Nat) (z16 : Nat) (z17 : Nat) (z18 : Nat) (z19 : Nat) (z22 : Nat) (z23 : Nat) (z24 : Nat) (z25 : Nat) (z26 : Nat) (z27 : Nat) (z28 : Nat) (z29 : Nat) (z30 : Nat) (z31 : Nat) (z32 : Nat) (z33 : Nat) (z36 : Nat) (z37 : Nat) (z38 : Nat) (z39 : Nat) (z40 : Nat) (z41 : Nat) (z42 : Nat) (z43 : Nat) (z44 : Nat) (z45 : Nat) (z46 : Nat) (z47 : Nat) (z48 : Nat) (z55 : Nat) (z56 : Nat) (z59 : Nat) (z60 : Nat) (z61 : Nat) (ua : Nat) (fa : Nat → Int32) (ou : Nat) (ha0 : fa 0 = 0) (ha1 : fa 1 = 0) (ha2 : fa 2 = 10) (ha3 : fa 3 = 10) (ha4 : fa 4 = 3) (hv : xs 1 = 10) (H : Heap) (locs : List Loc) (hw : kW γ A [(x, .inr (10, [.ref x0, .ref x1, .ref x2, .ref x3, .ref x4, .ref x5, .ref x6, .ref x7, .ref x8, .ref x9, .ref x10])), (z, .inr (11, [.int 0, .int 0, .ref z2, .int 0, .int 0, .int 0, .int 0, .long 0, .int 0, .int 0, .ref z10, .ref z11, .ref z12, .ref z13, .ref z14, .ref z15, .ref z16, .ref z17, .ref z18, .ref z19, .int 0, .int 0, .ref z22, .ref z23, .ref z24, .ref z25, .ref z26, .ref z27, .ref z28, .ref z29, .ref z30, .ref z31, .ref z32, .ref z33, .int 0, .long 0, .ref z36, .ref z37, .ref z38, .ref z39, .ref z40, .ref z41, .ref z42, .ref z43, .ref z44, .ref z45, .ref z46, .ref z47, .ref z48, .int 0, .int 10, .int 0, .int 0, .int 0, .int 0, .ref z55, .ref z56, .int 0, .int 0, .ref z59, .ref z60, .ref z61, .int 0, .long 0])), (x1, .inr (9, [.ref ua, .int 0, .int 0])), (z10, .inl (γ.2.1 0, 10, .inl fa))] s H locs) (ls : Array Slot) (hl : lv_has ls 7 [(4, .int 0), (3, .ref ou), (2, .ref z), (1, .ref x), (0, .ref b)]) : W p l e room_1 s m [Value.ref b].toArray below meth c H locs 251 13922 (lw_Z below #[Value.ref b] s) (F0 m 1345 ls []) := by
  have hx := hC.1
  have hb := hC.2.1
  refine lv_aload_n hx hb dL_law_1345 rfl (lv_at hl 3 rfl) ?_
  refine lv_aload_n hx hb dL_law_1346 rfl (lv_at hl 4 rfl) ?_
  refine lv_iload hx hb dL_law_1347 (lv_at hl 0 rfl) ?_
  refine lv_iconst (v := 1) hx hb dL_law_1349 (by decide) ?_
  refine lv_iadd hx hb dL_law_1350 ?_
  refine lv_topi (fun x_2507 ex_2507 => ?_)
  obtain rfl : x_2507 = 1 := ex_2507.trans (by decide)
  refine va_sld hx hb hX hbl hbA hw.2.2 (k_in0 (by decide)) dL_law_1351 ?_
  refine lv_topi (fun x_2508 ex_2508 => ?_)
  obtain rfl : x_2508 = 10 := (show x_2508 = xs 1 from ex_2508).trans hv
  refine k_V (wr := [(z, .inr (11, [.int 0, .int 0, .ref z2, .int 0, .int 0, .int 0, .int 0, .long 0, .int 0, .int 0, .ref z10, .ref z11, .ref z12, .ref z13, .ref z14, .ref z15, .ref z16, .ref z17, .ref z18, .ref z19, .int 0, .int 0, .ref z22, .ref z23, .ref z24, .ref z25, .ref z26, .ref z27, .ref z28, .ref z29, .ref z30, .ref z31, .ref z32, .ref z33, .int 0, .long 0, .ref z36, .ref z37, .ref z38, .ref z39, .ref z40, .ref z41, .ref z42, .ref z43, .ref z44, .ref z45, .ref z46, .ref z47, .ref z48, .int 0, .int 10, .int 0, .int 0, .int 0, .int 0, .ref z55, .ref z56, .int 0, .int 0, .ref z59, .ref z60, .ref z61, .int 0, .long 0])), (z10, .inl (γ.2.1 0, 10, .inl fa))]) 1 gw_739 gw_740 gw_741 gw_1 gw_742 hd_X11_count hC hw (c_X11_count_10 γ l x x0 x1 x2 x3 x4 x5 x6 x7 x8 x9 x10 ua) ⟨by decide, by decide⟩ ⟨by decide, by decide⟩ hl.1 rfl 0 rfl rfl rfl (Nat.le_of_ble_eq_true rfl) [0, 2] [1, 3] rfl rfl rfl rfl (by decide) dL_law_1352 (fun r w1 H locs hq hw => ?_)
  obtain ⟨rfl, rfl⟩ := hq
  have hw : kW γ A [(z, .inr (11, [.int 0, .int 0, .ref z2, .int 0, .int 0, .int 0, .int 0, .long 0, .int 0, .int 0, .ref z10, .ref z11, .ref z12, .ref z13, .ref z14, .ref z15, .ref z16, .ref z17, .ref z18, .ref z19, .int 0, .int 0, .ref z22, .ref z23, .ref z24, .ref z25, .ref z26, .ref z27, .ref z28, .ref z29, .ref z30, .ref z31, .ref z32, .ref z33, .int 0, .long 0, .ref z36, .ref z37, .ref z38, .ref z39, .ref z40, .ref z41, .ref z42, .ref z43, .ref z44, .ref z45, .ref z46, .ref z47, .ref z48, .int 0, .int 10, .int 0, .int 0, .int 0, .int 0, .ref z55, .ref z56, .int 0, .int 0, .ref z59, .ref z60, .ref z61, .int 0, .long 0])), (z10, .inl (γ.2.1 0, 10, .inl fa))] s H locs := hw
  refine W.eq (g2 := F0 m 1355 ls [.int 0]) rfl ?_
  refine lv_aload_n hx hb dL_law_1355 rfl (lv_at hl 2 rfl) ?_
  refine lv_aload_n hx hb dL_law_1356 rfl (lv_at hl 4 rfl) ?_
  refine lv_iload hx hb dL_law_1357 (lv_at hl 0 rfl) ?_
  refine lv_iconst (v := 1) hx hb dL_law_1359 (by decide) ?_
  refine lv_iadd hx hb dL_law_1360 ?_
  refine lv_topi (fun x_2509 ex_2509 => ?_)
  obtain rfl : x_2509 = 1 := ex_2509.trans (by decide)
  refine va_sld hx hb hX hbl hbA hw.2.2 (k_in0 (by decide)) dL_law_1361 ?_
  refine lv_topi (fun x_2510 ex_2510 => ?_)
  obtain rfl : x_2510 = 10 := (show x_2510 = xs 1 from ex_2510).trans hv
  refine k_V (wr := []) 1 gw_1811 gw_1812 gw_1813 gw_15 gw_1814 hd_X12_count hC hw (c_X12_count_10 γ l z z2 z10 z11 z12 z13 z14 z15 z16 z17 z18 z19 z22 z23 z24 z25 z26 z27 z28 z29 z30 z31 z32 z33 z36 z37 z38 z39 z40 z41 z42 z43 z44 z45 z46 z47 z48 z55 z56 z59 z60 z61 fa ha0 ha1 ha2 ha3 ha4) ⟨by decide, by decide⟩ ⟨by decide, by decide⟩ hl.1 rfl 0 rfl rfl rfl (Nat.le_of_ble_eq_true rfl) [0, 1] [] rfl rfl rfl rfl (by decide) dL_law_1362 (fun r w1 H locs hq hw => ?_)
  obtain ⟨rfl, rfl⟩ := hq
  have hw : kW γ A [] s H locs := hw
  refine W.eq (g2 := F0 m 1365 ls [.int 0, .int 0]) rfl ?_
  refine lv_icmp_eq (tgt := 1370) hx hb dL_law_1365 (by decide) (fun _ => ?_) (fun h => absurd (by decide) h)
  exact law_end hC hr hlocks hX hbl hbA hAs hl9 _ _ (kW.sub hw [] rfl rfl) (by decide) (by decide) _ (lv_sub hl [0, 4] rfl)

set_option maxHeartbeats 4000000 in
set_option maxRecDepth 100000 in
theorem lc_31_11 {γ : kΓ} {l : Launch} {p : Program} {e : Env} {s : State} {m : MethodId} {below : List Frame} {meth : Method} {c : Code} {A : Nat → Prop} {b : Nat} {xs : Nat → Int32} (hC : kC γ p s m [Value.ref b].toArray c code 7 RL A) (hr : meth.sig.returnType = ret) (hlocks : meth.locks = false) (hX : va_X b 7 xs s s.heap) (hbl : b < s.heap.size) (hbA : ¬ A b) (hAs : ∀ q, A q → s.heap.size ≤ q) (hl9 : l.stackTraces = false) (x : Nat) (x0 : Nat) (x1 : Nat) (x2 : Nat) (x3 : Nat) (x4 : Nat) (x5 : Nat) (x6 : Nat) (x7 : Nat) (x8 : Nat) (x9 : Nat) (x10 : Nat) (z : Nat) (z2 : Nat) (z10 : Nat) (z11 : Nat) (z12 : Nat) (z13 : Nat) (z14 : Nat) (z15 : Nat) (z16 : Nat) (z17 : Nat) (z18 : Nat) (z19 : Nat) (z22 : Nat) (z23 : Nat) (z24 : Nat) (z25 : Nat) (z26 : Nat) (z27 : Nat) (z28 : Nat) (z29 : Nat) (z30 : Nat) (z31 : Nat) (z32 : Nat) (z33 : Nat) (z36 : Nat) (z37 : Nat) (z38 : Nat) (z39 : Nat) (z40 : Nat) (z41 : Nat) (z42 : Nat) (z43 : Nat) (z44 : Nat) (z45 : Nat) (z46 : Nat) (z47 : Nat) (z48 : Nat) (z55 : Nat) (z56 : Nat) (z59 : Nat) (z60 : Nat) (z61 : Nat) (x0g : Nat) (fa : Nat → Int32) (ou : Nat) (ha0 : fa 0 = 0) (ha1 : fa 1 = 0) (ha2 : fa 2 = 10) (ha3 : fa 3 = 10) (ha4 : fa 4 = 3) (hv : xs 1 = 11) (H : Heap) (locs : List Loc) (hw : kW γ A [(x, .inr (10, [.ref x0, .ref x1, .ref x2, .ref x3, .ref x4, .ref x5, .ref x6, .ref x7, .ref x8, .ref x9, .ref x10])), (z, .inr (11, [.int 0, .int 0, .ref z2, .int 0, .int 0, .int 0, .int 0, .long 0, .int 0, .int 0, .ref z10, .ref z11, .ref z12, .ref z13, .ref z14, .ref z15, .ref z16, .ref z17, .ref z18, .ref z19, .int 0, .int 0, .ref z22, .ref z23, .ref z24, .ref z25, .ref z26, .ref z27, .ref z28, .ref z29, .ref z30, .ref z31, .ref z32, .ref z33, .int 0, .long 0, .ref z36, .ref z37, .ref z38, .ref z39, .ref z40, .ref z41, .ref z42, .ref z43, .ref z44, .ref z45, .ref z46, .ref z47, .ref z48, .int 0, .int 10, .int 0, .int 0, .int 0, .int 0, .ref z55, .ref z56, .int 0, .int 0, .ref z59, .ref z60, .ref z61, .int 0, .long 0])), (x0, .inr (8, [.ref x0g, .int 0, .int 0, .int 0, .int 0, .int 0, .long 0, .ref γ.2.2.2])), (z10, .inl (γ.2.1 0, 10, .inl fa))] s H locs) (ls : Array Slot) (hl : lv_has ls 7 [(4, .int 0), (3, .ref ou), (2, .ref z), (1, .ref x), (0, .ref b)]) : W p l e room_1 s m [Value.ref b].toArray below meth c H locs 251 13922 (lw_Z below #[Value.ref b] s) (F0 m 1345 ls []) := by
  have hx := hC.1
  have hb := hC.2.1
  refine lv_aload_n hx hb dL_law_1345 rfl (lv_at hl 3 rfl) ?_
  refine lv_aload_n hx hb dL_law_1346 rfl (lv_at hl 4 rfl) ?_
  refine lv_iload hx hb dL_law_1347 (lv_at hl 0 rfl) ?_
  refine lv_iconst (v := 1) hx hb dL_law_1349 (by decide) ?_
  refine lv_iadd hx hb dL_law_1350 ?_
  refine lv_topi (fun x_2511 ex_2511 => ?_)
  obtain rfl : x_2511 = 1 := ex_2511.trans (by decide)
  refine va_sld hx hb hX hbl hbA hw.2.2 (k_in0 (by decide)) dL_law_1351 ?_
  refine lv_topi (fun x_2512 ex_2512 => ?_)
  obtain rfl : x_2512 = 11 := (show x_2512 = xs 1 from ex_2512).trans hv
  refine k_V (wr := [(z, .inr (11, [.int 0, .int 0, .ref z2, .int 0, .int 0, .int 0, .int 0, .long 0, .int 0, .int 0, .ref z10, .ref z11, .ref z12, .ref z13, .ref z14, .ref z15, .ref z16, .ref z17, .ref z18, .ref z19, .int 0, .int 0, .ref z22, .ref z23, .ref z24, .ref z25, .ref z26, .ref z27, .ref z28, .ref z29, .ref z30, .ref z31, .ref z32, .ref z33, .int 0, .long 0, .ref z36, .ref z37, .ref z38, .ref z39, .ref z40, .ref z41, .ref z42, .ref z43, .ref z44, .ref z45, .ref z46, .ref z47, .ref z48, .int 0, .int 10, .int 0, .int 0, .int 0, .int 0, .ref z55, .ref z56, .int 0, .int 0, .ref z59, .ref z60, .ref z61, .int 0, .long 0])), (z10, .inl (γ.2.1 0, 10, .inl fa))]) 1 gw_739 gw_740 gw_741 gw_1 gw_742 hd_X11_count hC hw (c_X11_count_11 γ l x x0 x1 x2 x3 x4 x5 x6 x7 x8 x9 x10 x0g) ⟨by decide, by decide⟩ ⟨by decide, by decide⟩ hl.1 rfl 0 rfl rfl rfl (Nat.le_of_ble_eq_true rfl) [0, 2] [1, 3] rfl rfl rfl rfl (by decide) dL_law_1352 (fun r w1 H locs hq hw => ?_)
  obtain ⟨rfl, rfl⟩ := hq
  have hw : kW γ A [(z, .inr (11, [.int 0, .int 0, .ref z2, .int 0, .int 0, .int 0, .int 0, .long 0, .int 0, .int 0, .ref z10, .ref z11, .ref z12, .ref z13, .ref z14, .ref z15, .ref z16, .ref z17, .ref z18, .ref z19, .int 0, .int 0, .ref z22, .ref z23, .ref z24, .ref z25, .ref z26, .ref z27, .ref z28, .ref z29, .ref z30, .ref z31, .ref z32, .ref z33, .int 0, .long 0, .ref z36, .ref z37, .ref z38, .ref z39, .ref z40, .ref z41, .ref z42, .ref z43, .ref z44, .ref z45, .ref z46, .ref z47, .ref z48, .int 0, .int 10, .int 0, .int 0, .int 0, .int 0, .ref z55, .ref z56, .int 0, .int 0, .ref z59, .ref z60, .ref z61, .int 0, .long 0])), (z10, .inl (γ.2.1 0, 10, .inl fa))] s H locs := hw
  refine W.eq (g2 := F0 m 1355 ls [.int 0]) rfl ?_
  refine lv_aload_n hx hb dL_law_1355 rfl (lv_at hl 2 rfl) ?_
  refine lv_aload_n hx hb dL_law_1356 rfl (lv_at hl 4 rfl) ?_
  refine lv_iload hx hb dL_law_1357 (lv_at hl 0 rfl) ?_
  refine lv_iconst (v := 1) hx hb dL_law_1359 (by decide) ?_
  refine lv_iadd hx hb dL_law_1360 ?_
  refine lv_topi (fun x_2513 ex_2513 => ?_)
  obtain rfl : x_2513 = 1 := ex_2513.trans (by decide)
  refine va_sld hx hb hX hbl hbA hw.2.2 (k_in0 (by decide)) dL_law_1361 ?_
  refine lv_topi (fun x_2514 ex_2514 => ?_)
  obtain rfl : x_2514 = 11 := (show x_2514 = xs 1 from ex_2514).trans hv
  refine k_V (wr := []) 1 gw_1811 gw_1812 gw_1813 gw_15 gw_1814 hd_X12_count hC hw (c_X12_count_11 γ l z z2 z10 z11 z12 z13 z14 z15 z16 z17 z18 z19 z22 z23 z24 z25 z26 z27 z28 z29 z30 z31 z32 z33 z36 z37 z38 z39 z40 z41 z42 z43 z44 z45 z46 z47 z48 z55 z56 z59 z60 z61 fa ha0 ha1 ha2 ha3 ha4) ⟨by decide, by decide⟩ ⟨by decide, by decide⟩ hl.1 rfl 0 rfl rfl rfl (Nat.le_of_ble_eq_true rfl) [0, 1] [] rfl rfl rfl rfl (by decide) dL_law_1362 (fun r w1 H locs hq hw => ?_)
  obtain ⟨rfl, rfl⟩ := hq
  have hw : kW γ A [] s H locs := hw
  refine W.eq (g2 := F0 m 1365 ls [.int 0, .int 0]) rfl ?_
  refine lv_icmp_eq (tgt := 1370) hx hb dL_law_1365 (by decide) (fun _ => ?_) (fun h => absurd (by decide) h)
  exact law_end hC hr hlocks hX hbl hbA hAs hl9 _ _ (kW.sub hw [] rfl rfl) (by decide) (by decide) _ (lv_sub hl [0, 4] rfl)

set_option maxHeartbeats 4000000 in
set_option maxRecDepth 100000 in
theorem lc_31_l {γ : kΓ} {l : Launch} {p : Program} {e : Env} {s : State} {m : MethodId} {below : List Frame} {meth : Method} {c : Code} {A : Nat → Prop} {b : Nat} {xs : Nat → Int32} (hC : kC γ p s m [Value.ref b].toArray c code 7 RL A) (hr : meth.sig.returnType = ret) (hlocks : meth.locks = false) (hX : va_X b 7 xs s s.heap) (hbl : b < s.heap.size) (hbA : ¬ A b) (hAs : ∀ q, A q → s.heap.size ≤ q) (hl9 : l.stackTraces = false) (x : Nat) (x0 : Nat) (x1 : Nat) (x2 : Nat) (x3 : Nat) (x4 : Nat) (x5 : Nat) (x6 : Nat) (x7 : Nat) (x8 : Nat) (x9 : Nat) (x10 : Nat) (z : Nat) (z2 : Nat) (z10 : Nat) (z11 : Nat) (z12 : Nat) (z13 : Nat) (z14 : Nat) (z15 : Nat) (z16 : Nat) (z17 : Nat) (z18 : Nat) (z19 : Nat) (z22 : Nat) (z23 : Nat) (z24 : Nat) (z25 : Nat) (z26 : Nat) (z27 : Nat) (z28 : Nat) (z29 : Nat) (z30 : Nat) (z31 : Nat) (z32 : Nat) (z33 : Nat) (z36 : Nat) (z37 : Nat) (z38 : Nat) (z39 : Nat) (z40 : Nat) (z41 : Nat) (z42 : Nat) (z43 : Nat) (z44 : Nat) (z45 : Nat) (z46 : Nat) (z47 : Nat) (z48 : Nat) (z55 : Nat) (z56 : Nat) (z59 : Nat) (z60 : Nat) (z61 : Nat) (ou : Nat) (h1 : xs 1 < 0) (H : Heap) (locs : List Loc) (hw : kW γ A [(x, .inr (10, [.ref x0, .ref x1, .ref x2, .ref x3, .ref x4, .ref x5, .ref x6, .ref x7, .ref x8, .ref x9, .ref x10])), (z, .inr (11, [.int 0, .int 0, .ref z2, .int 0, .int 0, .int 0, .int 0, .long 0, .int 0, .int 0, .ref z10, .ref z11, .ref z12, .ref z13, .ref z14, .ref z15, .ref z16, .ref z17, .ref z18, .ref z19, .int 0, .int 0, .ref z22, .ref z23, .ref z24, .ref z25, .ref z26, .ref z27, .ref z28, .ref z29, .ref z30, .ref z31, .ref z32, .ref z33, .int 0, .long 0, .ref z36, .ref z37, .ref z38, .ref z39, .ref z40, .ref z41, .ref z42, .ref z43, .ref z44, .ref z45, .ref z46, .ref z47, .ref z48, .int 0, .int 10, .int 0, .int 0, .int 0, .int 0, .ref z55, .ref z56, .int 0, .int 0, .ref z59, .ref z60, .ref z61, .int 0, .long 0]))] s H locs) (ls : Array Slot) (hl : lv_has ls 7 [(4, .int 0), (3, .ref ou), (2, .ref z), (1, .ref x), (0, .ref b)]) : W p l e room_1 s m [Value.ref b].toArray below meth c H locs 251 13922 (lw_Z below #[Value.ref b] s) (F0 m 1345 ls []) := by
  have hx := hC.1
  have hb := hC.2.1
  refine lv_aload_n hx hb dL_law_1345 rfl (lv_at hl 3 rfl) ?_
  refine lv_aload_n hx hb dL_law_1346 rfl (lv_at hl 4 rfl) ?_
  refine lv_iload hx hb dL_law_1347 (lv_at hl 0 rfl) ?_
  refine lv_iconst (v := 1) hx hb dL_law_1349 (by decide) ?_
  refine lv_iadd hx hb dL_law_1350 ?_
  refine lv_topi (fun x_2515 ex_2515 => ?_)
  obtain rfl : x_2515 = 1 := ex_2515.trans (by decide)
  refine va_sld hx hb hX hbl hbA hw.2.2 (k_in0 (by decide)) dL_law_1351 ?_
  refine lv_topi (fun x_2516 ex_2516 => ?_)
  obtain rfl : x_2516 = xs 1 := ex_2516
  refine k_V (wr := [(z, .inr (11, [.int 0, .int 0, .ref z2, .int 0, .int 0, .int 0, .int 0, .long 0, .int 0, .int 0, .ref z10, .ref z11, .ref z12, .ref z13, .ref z14, .ref z15, .ref z16, .ref z17, .ref z18, .ref z19, .int 0, .int 0, .ref z22, .ref z23, .ref z24, .ref z25, .ref z26, .ref z27, .ref z28, .ref z29, .ref z30, .ref z31, .ref z32, .ref z33, .int 0, .long 0, .ref z36, .ref z37, .ref z38, .ref z39, .ref z40, .ref z41, .ref z42, .ref z43, .ref z44, .ref z45, .ref z46, .ref z47, .ref z48, .int 0, .int 10, .int 0, .int 0, .int 0, .int 0, .ref z55, .ref z56, .int 0, .int 0, .ref z59, .ref z60, .ref z61, .int 0, .long 0]))]) 1 gw_739 gw_740 gw_741 gw_1 gw_742 hd_X11_count hC hw (c_X11_count_o γ l x x0 x1 x2 x3 x4 x5 x6 x7 x8 x9 x10 (xs 1) (Or.inl (Int32.lt_iff_toInt_lt.mp h1))) ⟨by decide, by decide⟩ ⟨by decide, by decide⟩ hl.1 rfl 0 rfl rfl rfl (Nat.le_of_ble_eq_true rfl) [0] [1] rfl rfl rfl rfl (by decide) dL_law_1352 (fun r w1 H locs hq hw => ?_)
  obtain ⟨rfl, rfl⟩ := hq
  have hw : kW γ A [(z, .inr (11, [.int 0, .int 0, .ref z2, .int 0, .int 0, .int 0, .int 0, .long 0, .int 0, .int 0, .ref z10, .ref z11, .ref z12, .ref z13, .ref z14, .ref z15, .ref z16, .ref z17, .ref z18, .ref z19, .int 0, .int 0, .ref z22, .ref z23, .ref z24, .ref z25, .ref z26, .ref z27, .ref z28, .ref z29, .ref z30, .ref z31, .ref z32, .ref z33, .int 0, .long 0, .ref z36, .ref z37, .ref z38, .ref z39, .ref z40, .ref z41, .ref z42, .ref z43, .ref z44, .ref z45, .ref z46, .ref z47, .ref z48, .int 0, .int 10, .int 0, .int 0, .int 0, .int 0, .ref z55, .ref z56, .int 0, .int 0, .ref z59, .ref z60, .ref z61, .int 0, .long 0]))] s H locs := hw
  refine W.eq (g2 := F0 m 1355 ls [.int (-1)]) rfl ?_
  refine lv_aload_n hx hb dL_law_1355 rfl (lv_at hl 2 rfl) ?_
  refine lv_aload_n hx hb dL_law_1356 rfl (lv_at hl 4 rfl) ?_
  refine lv_iload hx hb dL_law_1357 (lv_at hl 0 rfl) ?_
  refine lv_iconst (v := 1) hx hb dL_law_1359 (by decide) ?_
  refine lv_iadd hx hb dL_law_1360 ?_
  refine lv_topi (fun x_2517 ex_2517 => ?_)
  obtain rfl : x_2517 = 1 := ex_2517.trans (by decide)
  refine va_sld hx hb hX hbl hbA hw.2.2 (k_in0 (by decide)) dL_law_1361 ?_
  refine lv_topi (fun x_2518 ex_2518 => ?_)
  obtain rfl : x_2518 = xs 1 := ex_2518
  refine k_V (wr := []) 1 gw_1811 gw_1812 gw_1813 gw_15 gw_1814 hd_X12_count hC hw (c_X12_count_l γ l z z2 z10 z11 z12 z13 z14 z15 z16 z17 z18 z19 z22 z23 z24 z25 z26 z27 z28 z29 z30 z31 z32 z33 z36 z37 z38 z39 z40 z41 z42 z43 z44 z45 z46 z47 z48 z55 z56 z59 z60 z61 (xs 1) h1) ⟨by decide, by decide⟩ ⟨by decide, by decide⟩ hl.1 rfl 0 rfl rfl rfl (Nat.le_of_ble_eq_true rfl) [0] [] rfl rfl rfl rfl (by decide) dL_law_1362 (fun r w1 H locs hq hw => ?_)
  obtain ⟨rfl, rfl⟩ := hq
  have hw : kW γ A [] s H locs := hw
  refine W.eq (g2 := F0 m 1365 ls [.int (-1), .int (-1)]) rfl ?_
  refine lv_icmp_eq (tgt := 1370) hx hb dL_law_1365 (by decide) (fun _ => ?_) (fun h => absurd (by decide) h)
  exact law_end hC hr hlocks hX hbl hbA hAs hl9 _ _ (kW.sub hw [] rfl rfl) (by decide) (by decide) _ (lv_sub hl [0, 4] rfl)

set_option maxHeartbeats 4000000 in
set_option maxRecDepth 100000 in
theorem lc_31_h {γ : kΓ} {l : Launch} {p : Program} {e : Env} {s : State} {m : MethodId} {below : List Frame} {meth : Method} {c : Code} {A : Nat → Prop} {b : Nat} {xs : Nat → Int32} (hC : kC γ p s m [Value.ref b].toArray c code 7 RL A) (hr : meth.sig.returnType = ret) (hlocks : meth.locks = false) (hX : va_X b 7 xs s s.heap) (hbl : b < s.heap.size) (hbA : ¬ A b) (hAs : ∀ q, A q → s.heap.size ≤ q) (hl9 : l.stackTraces = false) (x : Nat) (x0 : Nat) (x1 : Nat) (x2 : Nat) (x3 : Nat) (x4 : Nat) (x5 : Nat) (x6 : Nat) (x7 : Nat) (x8 : Nat) (x9 : Nat) (x10 : Nat) (z : Nat) (z2 : Nat) (z10 : Nat) (z11 : Nat) (z12 : Nat) (z13 : Nat) (z14 : Nat) (z15 : Nat) (z16 : Nat) (z17 : Nat) (z18 : Nat) (z19 : Nat) (z22 : Nat) (z23 : Nat) (z24 : Nat) (z25 : Nat) (z26 : Nat) (z27 : Nat) (z28 : Nat) (z29 : Nat) (z30 : Nat) (z31 : Nat) (z32 : Nat) (z33 : Nat) (z36 : Nat) (z37 : Nat) (z38 : Nat) (z39 : Nat) (z40 : Nat) (z41 : Nat) (z42 : Nat) (z43 : Nat) (z44 : Nat) (z45 : Nat) (z46 : Nat) (z47 : Nat) (z48 : Nat) (z55 : Nat) (z56 : Nat) (z59 : Nat) (z60 : Nat) (z61 : Nat) (ou : Nat) (h1 : ¬ xs 1 < 0) (h2 : 11 < xs 1) (H : Heap) (locs : List Loc) (hw : kW γ A [(x, .inr (10, [.ref x0, .ref x1, .ref x2, .ref x3, .ref x4, .ref x5, .ref x6, .ref x7, .ref x8, .ref x9, .ref x10])), (z, .inr (11, [.int 0, .int 0, .ref z2, .int 0, .int 0, .int 0, .int 0, .long 0, .int 0, .int 0, .ref z10, .ref z11, .ref z12, .ref z13, .ref z14, .ref z15, .ref z16, .ref z17, .ref z18, .ref z19, .int 0, .int 0, .ref z22, .ref z23, .ref z24, .ref z25, .ref z26, .ref z27, .ref z28, .ref z29, .ref z30, .ref z31, .ref z32, .ref z33, .int 0, .long 0, .ref z36, .ref z37, .ref z38, .ref z39, .ref z40, .ref z41, .ref z42, .ref z43, .ref z44, .ref z45, .ref z46, .ref z47, .ref z48, .int 0, .int 10, .int 0, .int 0, .int 0, .int 0, .ref z55, .ref z56, .int 0, .int 0, .ref z59, .ref z60, .ref z61, .int 0, .long 0]))] s H locs) (ls : Array Slot) (hl : lv_has ls 7 [(4, .int 0), (3, .ref ou), (2, .ref z), (1, .ref x), (0, .ref b)]) : W p l e room_1 s m [Value.ref b].toArray below meth c H locs 251 13922 (lw_Z below #[Value.ref b] s) (F0 m 1345 ls []) := by
  have hx := hC.1
  have hb := hC.2.1
  refine lv_aload_n hx hb dL_law_1345 rfl (lv_at hl 3 rfl) ?_
  refine lv_aload_n hx hb dL_law_1346 rfl (lv_at hl 4 rfl) ?_
  refine lv_iload hx hb dL_law_1347 (lv_at hl 0 rfl) ?_
  refine lv_iconst (v := 1) hx hb dL_law_1349 (by decide) ?_
  refine lv_iadd hx hb dL_law_1350 ?_
  refine lv_topi (fun x_2519 ex_2519 => ?_)
  obtain rfl : x_2519 = 1 := ex_2519.trans (by decide)
  refine va_sld hx hb hX hbl hbA hw.2.2 (k_in0 (by decide)) dL_law_1351 ?_
  refine lv_topi (fun x_2520 ex_2520 => ?_)
  obtain rfl : x_2520 = xs 1 := ex_2520
  refine k_V (wr := [(z, .inr (11, [.int 0, .int 0, .ref z2, .int 0, .int 0, .int 0, .int 0, .long 0, .int 0, .int 0, .ref z10, .ref z11, .ref z12, .ref z13, .ref z14, .ref z15, .ref z16, .ref z17, .ref z18, .ref z19, .int 0, .int 0, .ref z22, .ref z23, .ref z24, .ref z25, .ref z26, .ref z27, .ref z28, .ref z29, .ref z30, .ref z31, .ref z32, .ref z33, .int 0, .long 0, .ref z36, .ref z37, .ref z38, .ref z39, .ref z40, .ref z41, .ref z42, .ref z43, .ref z44, .ref z45, .ref z46, .ref z47, .ref z48, .int 0, .int 10, .int 0, .int 0, .int 0, .int 0, .ref z55, .ref z56, .int 0, .int 0, .ref z59, .ref z60, .ref z61, .int 0, .long 0]))]) 1 gw_739 gw_740 gw_741 gw_1 gw_742 hd_X11_count hC hw (c_X11_count_o γ l x x0 x1 x2 x3 x4 x5 x6 x7 x8 x9 x10 (xs 1) (Or.inr (Int32.lt_iff_toInt_lt.mp h2))) ⟨by decide, by decide⟩ ⟨by decide, by decide⟩ hl.1 rfl 0 rfl rfl rfl (Nat.le_of_ble_eq_true rfl) [0] [1] rfl rfl rfl rfl (by decide) dL_law_1352 (fun r w1 H locs hq hw => ?_)
  obtain ⟨rfl, rfl⟩ := hq
  have hw : kW γ A [(z, .inr (11, [.int 0, .int 0, .ref z2, .int 0, .int 0, .int 0, .int 0, .long 0, .int 0, .int 0, .ref z10, .ref z11, .ref z12, .ref z13, .ref z14, .ref z15, .ref z16, .ref z17, .ref z18, .ref z19, .int 0, .int 0, .ref z22, .ref z23, .ref z24, .ref z25, .ref z26, .ref z27, .ref z28, .ref z29, .ref z30, .ref z31, .ref z32, .ref z33, .int 0, .long 0, .ref z36, .ref z37, .ref z38, .ref z39, .ref z40, .ref z41, .ref z42, .ref z43, .ref z44, .ref z45, .ref z46, .ref z47, .ref z48, .int 0, .int 10, .int 0, .int 0, .int 0, .int 0, .ref z55, .ref z56, .int 0, .int 0, .ref z59, .ref z60, .ref z61, .int 0, .long 0]))] s H locs := hw
  refine W.eq (g2 := F0 m 1355 ls [.int (-1)]) rfl ?_
  refine lv_aload_n hx hb dL_law_1355 rfl (lv_at hl 2 rfl) ?_
  refine lv_aload_n hx hb dL_law_1356 rfl (lv_at hl 4 rfl) ?_
  refine lv_iload hx hb dL_law_1357 (lv_at hl 0 rfl) ?_
  refine lv_iconst (v := 1) hx hb dL_law_1359 (by decide) ?_
  refine lv_iadd hx hb dL_law_1360 ?_
  refine lv_topi (fun x_2521 ex_2521 => ?_)
  obtain rfl : x_2521 = 1 := ex_2521.trans (by decide)
  refine va_sld hx hb hX hbl hbA hw.2.2 (k_in0 (by decide)) dL_law_1361 ?_
  refine lv_topi (fun x_2522 ex_2522 => ?_)
  obtain rfl : x_2522 = xs 1 := ex_2522
  refine k_V (wr := []) 1 gw_1811 gw_1812 gw_1813 gw_15 gw_1814 hd_X12_count hC hw (c_X12_count_h γ l z z2 z10 z11 z12 z13 z14 z15 z16 z17 z18 z19 z22 z23 z24 z25 z26 z27 z28 z29 z30 z31 z32 z33 z36 z37 z38 z39 z40 z41 z42 z43 z44 z45 z46 z47 z48 z55 z56 z59 z60 z61 (xs 1) h1 h2) ⟨by decide, by decide⟩ ⟨by decide, by decide⟩ hl.1 rfl 0 rfl rfl rfl (Nat.le_of_ble_eq_true rfl) [0] [] rfl rfl rfl rfl (by decide) dL_law_1362 (fun r w1 H locs hq hw => ?_)
  obtain ⟨rfl, rfl⟩ := hq
  have hw : kW γ A [] s H locs := hw
  refine W.eq (g2 := F0 m 1365 ls [.int (-1), .int (-1)]) rfl ?_
  refine lv_icmp_eq (tgt := 1370) hx hb dL_law_1365 (by decide) (fun _ => ?_) (fun h => absurd (by decide) h)
  exact law_end hC hr hlocks hX hbl hbA hAs hl9 _ _ (kW.sub hw [] rfl rfl) (by decide) (by decide) _ (lv_sub hl [0, 4] rfl)

set_option maxHeartbeats 4000000 in
set_option maxRecDepth 100000 in
theorem lc_27_n {γ : kΓ} {l : Launch} {p : Program} {e : Env} {s : State} {m : MethodId} {below : List Frame} {meth : Method} {c : Code} {A : Nat → Prop} {b : Nat} {xs : Nat → Int32} (hC : kC γ p s m [Value.ref b].toArray c code 7 RL A) (hr : meth.sig.returnType = ret) (hlocks : meth.locks = false) (hX : va_X b 7 xs s s.heap) (hbl : b < s.heap.size) (hbA : ¬ A b) (hAs : ∀ q, A q → s.heap.size ≤ q) (hl9 : l.stackTraces = false) (x : Nat) (x0 : Nat) (x1 : Nat) (x2 : Nat) (x3 : Nat) (x4 : Nat) (x5 : Nat) (x6 : Nat) (x7 : Nat) (x8 : Nat) (x9 : Nat) (x10 : Nat) (z : Nat) (z2 : Nat) (z10 : Nat) (z11 : Nat) (z12 : Nat) (z13 : Nat) (z14 : Nat) (z15 : Nat) (z16 : Nat) (z17 : Nat) (z18 : Nat) (z19 : Nat) (z22 : Nat) (z23 : Nat) (z24 : Nat) (z25 : Nat) (z26 : Nat) (z27 : Nat) (z28 : Nat) (z29 : Nat) (z30 : Nat) (z31 : Nat) (z32 : Nat) (z33 : Nat) (z36 : Nat) (z37 : Nat) (z38 : Nat) (z39 : Nat) (z40 : Nat) (z41 : Nat) (z42 : Nat) (z43 : Nat) (z44 : Nat) (z45 : Nat) (z46 : Nat) (z47 : Nat) (z48 : Nat) (z55 : Nat) (z56 : Nat) (z59 : Nat) (z60 : Nat) (z61 : Nat) (ou : Nat) (hb0 : ¬ (xs 1) < 0) (hb1 : ¬ 9 < (xs 1)) (hl0 : ¬ (xs 2) < 0) (hl1 : ¬ 9 < (xs 2)) (hg0 : ¬ (xs 3) < 0) (hg1 : ¬ 9 < (xs 3)) (hw0 : ¬ (xs 4) < -1) (hK : kR (xs 1) (xs 2) (xs 3) (xs 4) 4 0 = none) (H : Heap) (locs : List Loc) (hw : kW γ A [(x, .inr (10, [.ref x0, .ref x1, .ref x2, .ref x3, .ref x4, .ref x5, .ref x6, .ref x7, .ref x8, .ref x9, .ref x10])), (z, .inr (11, [.int 0, .int 0, .ref z2, .int 0, .int 0, .int 0, .int 0, .long 0, .int 0, .int 0, .ref z10, .ref z11, .ref z12, .ref z13, .ref z14, .ref z15, .ref z16, .ref z17, .ref z18, .ref z19, .int 0, .int 0, .ref z22, .ref z23, .ref z24, .ref z25, .ref z26, .ref z27, .ref z28, .ref z29, .ref z30, .ref z31, .ref z32, .ref z33, .int 0, .long 0, .ref z36, .ref z37, .ref z38, .ref z39, .ref z40, .ref z41, .ref z42, .ref z43, .ref z44, .ref z45, .ref z46, .ref z47, .ref z48, .int 0, .int 10, .int 0, .int 0, .int 0, .int 0, .ref z55, .ref z56, .int 0, .int 0, .ref z59, .ref z60, .ref z61, .int 0, .long 0])), (ou, .inl (γ.2.1 1, 1, .inr (.inl (fun _ => 0))))] s H locs) (ls : Array Slot) (hl : lv_has ls 7 [(4, .int 0), (3, .ref ou), (2, .ref z), (1, .ref x), (0, .ref b)]) : W p l e room_1 s m [Value.ref b].toArray below meth c H locs 251 13922 (lw_Z below #[Value.ref b] s) (F0 m 1095 ls []) := by
  have hx := hC.1
  have hb := hC.2.1
  refine lv_aload_n hx hb dL_law_1095 rfl (lv_at hl 3 rfl) ?_
  refine lv_aload_n hx hb dL_law_1096 rfl (lv_at hl 4 rfl) ?_
  refine lv_iload hx hb dL_law_1097 (lv_at hl 0 rfl) ?_
  refine lv_iconst (v := 1) hx hb dL_law_1099 (by decide) ?_
  refine lv_iadd hx hb dL_law_1100 ?_
  refine lv_topi (fun x_2523 ex_2523 => ?_)
  obtain rfl : x_2523 = 1 := ex_2523.trans (by decide)
  refine va_sld hx hb hX hbl hbA hw.2.2 (k_in0 (by decide)) dL_law_1101 ?_
  refine lv_topi (fun x_2524 ex_2524 => ?_)
  obtain rfl : x_2524 = xs 1 := ex_2524
  refine lv_aload_n hx hb dL_law_1102 rfl (lv_at hl 4 rfl) ?_
  refine lv_iload hx hb dL_law_1103 (lv_at hl 0 rfl) ?_
  refine lv_iconst (v := 2) hx hb dL_law_1105 (by decide) ?_
  refine lv_iadd hx hb dL_law_1106 ?_
  refine lv_topi (fun x_2525 ex_2525 => ?_)
  obtain rfl : x_2525 = 2 := ex_2525.trans (by decide)
  refine va_sld hx hb hX hbl hbA hw.2.2 (k_in0 (by decide)) dL_law_1107 ?_
  refine lv_topi (fun x_2526 ex_2526 => ?_)
  obtain rfl : x_2526 = xs 2 := ex_2526
  refine lv_aload_n hx hb dL_law_1108 rfl (lv_at hl 4 rfl) ?_
  refine lv_iload hx hb dL_law_1109 (lv_at hl 0 rfl) ?_
  refine lv_iconst (v := 3) hx hb dL_law_1111 (by decide) ?_
  refine lv_iadd hx hb dL_law_1112 ?_
  refine lv_topi (fun x_2527 ex_2527 => ?_)
  obtain rfl : x_2527 = 3 := ex_2527.trans (by decide)
  refine va_sld hx hb hX hbl hbA hw.2.2 (k_in0 (by decide)) dL_law_1113 ?_
  refine lv_topi (fun x_2528 ex_2528 => ?_)
  obtain rfl : x_2528 = xs 3 := ex_2528
  refine lv_aload_n hx hb dL_law_1114 rfl (lv_at hl 4 rfl) ?_
  refine lv_iload hx hb dL_law_1115 (lv_at hl 0 rfl) ?_
  refine lv_iconst (v := 4) hx hb dL_law_1117 (by decide) ?_
  refine lv_iadd hx hb dL_law_1118 ?_
  refine lv_topi (fun x_2529 ex_2529 => ?_)
  obtain rfl : x_2529 = 4 := ex_2529.trans (by decide)
  refine va_sld hx hb hX hbl hbA hw.2.2 (k_in0 (by decide)) dL_law_1119 ?_
  refine lv_topi (fun x_2530 ex_2530 => ?_)
  obtain rfl : x_2530 = xs 4 := ex_2530
  refine lv_aload_n hx hb dL_law_1120 rfl (lv_at hl 1 rfl) ?_
  refine k_SW (wr := [(z, .inr (11, [.int 0, .int 0, .ref z2, .int 0, .int 0, .int 0, .int 0, .long 0, .int 0, .int 0, .ref z10, .ref z11, .ref z12, .ref z13, .ref z14, .ref z15, .ref z16, .ref z17, .ref z18, .ref z19, .int 0, .int 0, .ref z22, .ref z23, .ref z24, .ref z25, .ref z26, .ref z27, .ref z28, .ref z29, .ref z30, .ref z31, .ref z32, .ref z33, .int 0, .long 0, .ref z36, .ref z37, .ref z38, .ref z39, .ref z40, .ref z41, .ref z42, .ref z43, .ref z44, .ref z45, .ref z46, .ref z47, .ref z48, .int 0, .int 10, .int 0, .int 0, .int 0, .int 0, .ref z55, .ref z56, .int 0, .int 0, .ref z59, .ref z60, .ref z61, .int 0, .long 0]))]) 6 gw_1146 gw_1147 gw_0 gw_1148 hd_L_rests hC hw (c_L_rests_n γ l hl9 x x0 x1 x2 x3 x4 x5 x6 x7 x8 x9 x10 (xs 1) (xs 2) (xs 3) (xs 4) ou (fun _ => 0) hb0 hb1 hl0 hl1 hg0 hg1 hw0 hK) ⟨by decide, by decide⟩ ⟨by decide, by decide⟩ hl.1 rfl rfl (Nat.le_of_ble_eq_true rfl) [0, 2] [1] rfl rfl rfl rfl (by decide) dL_law_1121 (fun r w1 H locs hq hw => ?_)
  obtain ⟨rfl, rfl⟩ := hq
  have hw : kW γ A [(z, .inr (11, [.int 0, .int 0, .ref z2, .int 0, .int 0, .int 0, .int 0, .long 0, .int 0, .int 0, .ref z10, .ref z11, .ref z12, .ref z13, .ref z14, .ref z15, .ref z16, .ref z17, .ref z18, .ref z19, .int 0, .int 0, .ref z22, .ref z23, .ref z24, .ref z25, .ref z26, .ref z27, .ref z28, .ref z29, .ref z30, .ref z31, .ref z32, .ref z33, .int 0, .long 0, .ref z36, .ref z37, .ref z38, .ref z39, .ref z40, .ref z41, .ref z42, .ref z43, .ref z44, .ref z45, .ref z46, .ref z47, .ref z48, .int 0, .int 10, .int 0, .int 0, .int 0, .int 0, .ref z55, .ref z56, .int 0, .int 0, .ref z59, .ref z60, .ref z61, .int 0, .long 0])), (ou, .inl (γ.2.1 1, 1, .inr (.inl (fun _ => 0))))] s H locs := hw
  refine W.eq (g2 := F0 m 1124 ls [.int 1]) rfl ?_
  refine W.widen (k := 252) (n := 13928) (by decide) (by decide) ?_
  refine lv_istore (lv' := [(5, .int 1), (4, .int 0), (3, .ref ou), (2, .ref z), (1, .ref x), (0, .ref b)]) hx hb dL_law_1124 hl (by decide) rfl (fun ls hl => ?_)
  refine lv_aload_n hx hb dL_law_1126 rfl (lv_at hl 3 rfl) ?_
  refine lv_aload_n hx hb dL_law_1127 rfl (lv_at hl 5 rfl) ?_
  refine lv_iload hx hb dL_law_1128 (lv_at hl 1 rfl) ?_
  refine lv_iconst (v := 1) hx hb dL_law_1130 (by decide) ?_
  refine lv_iadd hx hb dL_law_1131 ?_
  refine lv_topi (fun x_2531 ex_2531 => ?_)
  obtain rfl : x_2531 = 1 := ex_2531.trans (by decide)
  refine va_sld hx hb hX hbl hbA hw.2.2 (k_in0 (by decide)) dL_law_1132 ?_
  refine lv_topi (fun x_2532 ex_2532 => ?_)
  obtain rfl : x_2532 = xs 1 := ex_2532
  refine lv_aload_n hx hb dL_law_1133 rfl (lv_at hl 5 rfl) ?_
  refine lv_iload hx hb dL_law_1134 (lv_at hl 1 rfl) ?_
  refine lv_iconst (v := 2) hx hb dL_law_1136 (by decide) ?_
  refine lv_iadd hx hb dL_law_1137 ?_
  refine lv_topi (fun x_2533 ex_2533 => ?_)
  obtain rfl : x_2533 = 2 := ex_2533.trans (by decide)
  refine va_sld hx hb hX hbl hbA hw.2.2 (k_in0 (by decide)) dL_law_1138 ?_
  refine lv_topi (fun x_2534 ex_2534 => ?_)
  obtain rfl : x_2534 = xs 2 := ex_2534
  refine lv_aload_n hx hb dL_law_1139 rfl (lv_at hl 5 rfl) ?_
  refine lv_iload hx hb dL_law_1140 (lv_at hl 1 rfl) ?_
  refine lv_iconst (v := 3) hx hb dL_law_1142 (by decide) ?_
  refine lv_iadd hx hb dL_law_1143 ?_
  refine lv_topi (fun x_2535 ex_2535 => ?_)
  obtain rfl : x_2535 = 3 := ex_2535.trans (by decide)
  refine va_sld hx hb hX hbl hbA hw.2.2 (k_in0 (by decide)) dL_law_1144 ?_
  refine lv_topi (fun x_2536 ex_2536 => ?_)
  obtain rfl : x_2536 = xs 3 := ex_2536
  refine lv_aload_n hx hb dL_law_1145 rfl (lv_at hl 5 rfl) ?_
  refine lv_iload hx hb dL_law_1146 (lv_at hl 1 rfl) ?_
  refine lv_iconst (v := 4) hx hb dL_law_1148 (by decide) ?_
  refine lv_iadd hx hb dL_law_1149 ?_
  refine lv_topi (fun x_2537 ex_2537 => ?_)
  obtain rfl : x_2537 = 4 := ex_2537.trans (by decide)
  refine va_sld hx hb hX hbl hbA hw.2.2 (k_in0 (by decide)) dL_law_1150 ?_
  refine lv_topi (fun x_2538 ex_2538 => ?_)
  obtain rfl : x_2538 = xs 4 := ex_2538
  refine k_V (wr := [(ou, .inl (γ.2.1 1, 1, .inr (.inl (fun _ => 0))))]) 4 gw_1780 gw_1781 gw_1782 gw_15 gw_1783 hd_X12_rests hC hw (c_X12_rests_n γ l z z2 z10 z11 z12 z13 z14 z15 z16 z17 z18 z19 z22 z23 z24 z25 z26 z27 z28 z29 z30 z31 z32 z33 z36 z37 z38 z39 z40 z41 z42 z43 z44 z45 z46 z47 z48 z55 z56 z59 z60 z61 (xs 1) (xs 2) (xs 3) (xs 4) hb0 hb1 hl0 hl1 hg0 hg1 hw0 hK) ⟨by decide, by decide⟩ ⟨by decide, by decide⟩ hl.1 rfl 0 rfl rfl rfl (Nat.le_of_ble_eq_true rfl) [0] [1] rfl rfl rfl rfl (by decide) dL_law_1151 (fun r w1 H locs hq hw => ?_)
  obtain ⟨rfl, rfl⟩ := hq
  have hw : kW γ A [(ou, .inl (γ.2.1 1, 1, .inr (.inl (fun _ => 0)))), (z, .inr (11, [.int 1, .int 0, .ref z2, .int 0, .int 0, .int 0, .int 0, .long 0, .int 0, .int 0, .ref z10, .ref z11, .ref z12, .ref z13, .ref z14, .ref z15, .ref z16, .ref z17, .ref z18, .ref z19, .int 0, .int 0, .ref z22, .ref z23, .ref z24, .ref z25, .ref z26, .ref z27, .ref z28, .ref z29, .ref z30, .ref z31, .ref z32, .ref z33, .int 0, .long 0, .ref z36, .ref z37, .ref z38, .ref z39, .ref z40, .ref z41, .ref z42, .ref z43, .ref z44, .ref z45, .ref z46, .ref z47, .ref z48, .int 0, .int 10, .int 0, .int 0, .int 0, .int 0, .ref z55, .ref z56, .int 0, .int 0, .ref z59, .ref z60, .ref z61, .int 0, .long 0]))] s H locs := hw
  refine W.eq (g2 := F0 m 1154 ls [.int 0]) rfl ?_
  refine lv_istore (lv' := [(6, .int 0), (5, .int 1), (4, .int 0), (3, .ref ou), (2, .ref z), (1, .ref x), (0, .ref b)]) hx hb dL_law_1154 hl (by decide) rfl (fun ls hl => ?_)
  refine lv_aload_n hx hb dL_law_1156 rfl (lv_at hl 4 rfl) ?_
  refine k_V (wr := [(ou, .inl (γ.2.1 1, 1, .inr (.inl (fun _ => 0))))]) 0 gw_1385 gw_1386 gw_1387 gw_15 gw_1388 hd_X12_thrown hC hw (c_X12_thrown γ l z z2 z10 z11 z12 z13 z14 z15 z16 z17 z18 z19 z22 z23 z24 z25 z26 z27 z28 z29 z30 z31 z32 z33 z36 z37 z38 z39 z40 z41 z42 z43 z44 z45 z46 z47 z48 z55 z56 z59 z60 z61 0 0 0 0 0 0 0 0 0 0 0 0 0 10 0 0 0 0 0 0 0 0 1) ⟨by decide, by decide⟩ ⟨by decide, by decide⟩ hl.1 rfl 1 rfl rfl rfl (Nat.le_of_ble_eq_true rfl) [1] [0] rfl rfl rfl rfl (by decide) dL_law_1157 (fun r w1 H locs hq hw => ?_)
  obtain ⟨rfl, rfl⟩ := hq
  have hw : kW γ A [(ou, .inl (γ.2.1 1, 1, .inr (.inl (fun _ => 0))))] s H locs := hw
  refine W.eq (g2 := F0 m 1160 ls [.int 1]) rfl ?_
  refine lv_iload hx hb dL_law_1160 (lv_at hl 1 rfl) ?_
  refine lv_icmp_eq (tgt := 1167) hx hb dL_law_1162 (by decide) (fun _ => ?_) (fun h => absurd (by decide) h)
  refine lv_iload hx hb dL_law_1167 (lv_at hl 1 rfl) ?_
  refine lv_if_ne (tgt := 1184) hx hb dL_law_1169 (by decide) (fun _ => ?_) (fun h => absurd h (by decide))
  refine lv_goto (tgt := 1370) hx hb dL_law_1184 (by decide) ?_
  exact law_end hC hr hlocks hX hbl hbA hAs hl9 _ _ (kW.sub hw [] rfl rfl) (by decide) (by decide) _ (lv_sub hl [2, 6] rfl)

set_option maxHeartbeats 4000000 in
set_option maxRecDepth 100000 in
theorem lc_27_r {γ : kΓ} {l : Launch} {p : Program} {e : Env} {s : State} {m : MethodId} {below : List Frame} {meth : Method} {c : Code} {A : Nat → Prop} {b : Nat} {xs : Nat → Int32} (hC : kC γ p s m [Value.ref b].toArray c code 7 RL A) (hr : meth.sig.returnType = ret) (hlocks : meth.locks = false) (hX : va_X b 7 xs s s.heap) (hbl : b < s.heap.size) (hbA : ¬ A b) (hAs : ∀ q, A q → s.heap.size ≤ q) (hl9 : l.stackTraces = false) (x : Nat) (x0 : Nat) (x1 : Nat) (x2 : Nat) (x3 : Nat) (x4 : Nat) (x5 : Nat) (x6 : Nat) (x7 : Nat) (x8 : Nat) (x9 : Nat) (x10 : Nat) (z : Nat) (z2 : Nat) (z10 : Nat) (z11 : Nat) (z12 : Nat) (z13 : Nat) (z14 : Nat) (z15 : Nat) (z16 : Nat) (z17 : Nat) (z18 : Nat) (z19 : Nat) (z22 : Nat) (z23 : Nat) (z24 : Nat) (z25 : Nat) (z26 : Nat) (z27 : Nat) (z28 : Nat) (z29 : Nat) (z30 : Nat) (z31 : Nat) (z32 : Nat) (z33 : Nat) (z36 : Nat) (z37 : Nat) (z38 : Nat) (z39 : Nat) (z40 : Nat) (z41 : Nat) (z42 : Nat) (z43 : Nat) (z44 : Nat) (z45 : Nat) (z46 : Nat) (z47 : Nat) (z48 : Nat) (z55 : Nat) (z56 : Nat) (z59 : Nat) (z60 : Nat) (z61 : Nat) (ou : Nat) (v : Int32) (hb0 : ¬ (xs 1) < 0) (hb1 : ¬ 9 < (xs 1)) (hl0 : ¬ (xs 2) < 0) (hl1 : ¬ 9 < (xs 2)) (hg0 : ¬ (xs 3) < 0) (hg1 : ¬ 9 < (xs 3)) (hw0 : ¬ (xs 4) < -1) (hK : kR (xs 1) (xs 2) (xs 3) (xs 4) 4 0 = some v) (H : Heap) (locs : List Loc) (hw : kW γ A [(x, .inr (10, [.ref x0, .ref x1, .ref x2, .ref x3, .ref x4, .ref x5, .ref x6, .ref x7, .ref x8, .ref x9, .ref x10])), (z, .inr (11, [.int 0, .int 0, .ref z2, .int 0, .int 0, .int 0, .int 0, .long 0, .int 0, .int 0, .ref z10, .ref z11, .ref z12, .ref z13, .ref z14, .ref z15, .ref z16, .ref z17, .ref z18, .ref z19, .int 0, .int 0, .ref z22, .ref z23, .ref z24, .ref z25, .ref z26, .ref z27, .ref z28, .ref z29, .ref z30, .ref z31, .ref z32, .ref z33, .int 0, .long 0, .ref z36, .ref z37, .ref z38, .ref z39, .ref z40, .ref z41, .ref z42, .ref z43, .ref z44, .ref z45, .ref z46, .ref z47, .ref z48, .int 0, .int 10, .int 0, .int 0, .int 0, .int 0, .ref z55, .ref z56, .int 0, .int 0, .ref z59, .ref z60, .ref z61, .int 0, .long 0])), (ou, .inl (γ.2.1 1, 1, .inr (.inl (fun _ => 0))))] s H locs) (ls : Array Slot) (hl : lv_has ls 7 [(4, .int 0), (3, .ref ou), (2, .ref z), (1, .ref x), (0, .ref b)]) : W p l e room_1 s m [Value.ref b].toArray below meth c H locs 251 13922 (lw_Z below #[Value.ref b] s) (F0 m 1095 ls []) := by
  have hx := hC.1
  have hb := hC.2.1
  refine lv_aload_n hx hb dL_law_1095 rfl (lv_at hl 3 rfl) ?_
  refine lv_aload_n hx hb dL_law_1096 rfl (lv_at hl 4 rfl) ?_
  refine lv_iload hx hb dL_law_1097 (lv_at hl 0 rfl) ?_
  refine lv_iconst (v := 1) hx hb dL_law_1099 (by decide) ?_
  refine lv_iadd hx hb dL_law_1100 ?_
  refine lv_topi (fun x_2539 ex_2539 => ?_)
  obtain rfl : x_2539 = 1 := ex_2539.trans (by decide)
  refine va_sld hx hb hX hbl hbA hw.2.2 (k_in0 (by decide)) dL_law_1101 ?_
  refine lv_topi (fun x_2540 ex_2540 => ?_)
  obtain rfl : x_2540 = xs 1 := ex_2540
  refine lv_aload_n hx hb dL_law_1102 rfl (lv_at hl 4 rfl) ?_
  refine lv_iload hx hb dL_law_1103 (lv_at hl 0 rfl) ?_
  refine lv_iconst (v := 2) hx hb dL_law_1105 (by decide) ?_
  refine lv_iadd hx hb dL_law_1106 ?_
  refine lv_topi (fun x_2541 ex_2541 => ?_)
  obtain rfl : x_2541 = 2 := ex_2541.trans (by decide)
  refine va_sld hx hb hX hbl hbA hw.2.2 (k_in0 (by decide)) dL_law_1107 ?_
  refine lv_topi (fun x_2542 ex_2542 => ?_)
  obtain rfl : x_2542 = xs 2 := ex_2542
  refine lv_aload_n hx hb dL_law_1108 rfl (lv_at hl 4 rfl) ?_
  refine lv_iload hx hb dL_law_1109 (lv_at hl 0 rfl) ?_
  refine lv_iconst (v := 3) hx hb dL_law_1111 (by decide) ?_
  refine lv_iadd hx hb dL_law_1112 ?_
  refine lv_topi (fun x_2543 ex_2543 => ?_)
  obtain rfl : x_2543 = 3 := ex_2543.trans (by decide)
  refine va_sld hx hb hX hbl hbA hw.2.2 (k_in0 (by decide)) dL_law_1113 ?_
  refine lv_topi (fun x_2544 ex_2544 => ?_)
  obtain rfl : x_2544 = xs 3 := ex_2544
  refine lv_aload_n hx hb dL_law_1114 rfl (lv_at hl 4 rfl) ?_
  refine lv_iload hx hb dL_law_1115 (lv_at hl 0 rfl) ?_
  refine lv_iconst (v := 4) hx hb dL_law_1117 (by decide) ?_
  refine lv_iadd hx hb dL_law_1118 ?_
  refine lv_topi (fun x_2545 ex_2545 => ?_)
  obtain rfl : x_2545 = 4 := ex_2545.trans (by decide)
  refine va_sld hx hb hX hbl hbA hw.2.2 (k_in0 (by decide)) dL_law_1119 ?_
  refine lv_topi (fun x_2546 ex_2546 => ?_)
  obtain rfl : x_2546 = xs 4 := ex_2546
  refine lv_aload_n hx hb dL_law_1120 rfl (lv_at hl 1 rfl) ?_
  refine k_SW (wr := [(z, .inr (11, [.int 0, .int 0, .ref z2, .int 0, .int 0, .int 0, .int 0, .long 0, .int 0, .int 0, .ref z10, .ref z11, .ref z12, .ref z13, .ref z14, .ref z15, .ref z16, .ref z17, .ref z18, .ref z19, .int 0, .int 0, .ref z22, .ref z23, .ref z24, .ref z25, .ref z26, .ref z27, .ref z28, .ref z29, .ref z30, .ref z31, .ref z32, .ref z33, .int 0, .long 0, .ref z36, .ref z37, .ref z38, .ref z39, .ref z40, .ref z41, .ref z42, .ref z43, .ref z44, .ref z45, .ref z46, .ref z47, .ref z48, .int 0, .int 10, .int 0, .int 0, .int 0, .int 0, .ref z55, .ref z56, .int 0, .int 0, .ref z59, .ref z60, .ref z61, .int 0, .long 0]))]) 6 gw_1146 gw_1147 gw_0 gw_1148 hd_L_rests hC hw (c_L_rests_r γ l hl9 x x0 x1 x2 x3 x4 x5 x6 x7 x8 x9 x10 (xs 1) (xs 2) (xs 3) (xs 4) v ou (fun _ => 0) hb0 hb1 hl0 hl1 hg0 hg1 hw0 hK) ⟨by decide, by decide⟩ ⟨by decide, by decide⟩ hl.1 rfl rfl (Nat.le_of_ble_eq_true rfl) [0, 2] [1] rfl rfl rfl rfl (by decide) dL_law_1121 (fun r w1 H locs hq hw => ?_)
  obtain ⟨fo9_2547, rfl, rfl, g_2548⟩ := hq
  have hw : kW γ A [(z, .inr (11, [.int 0, .int 0, .ref z2, .int 0, .int 0, .int 0, .int 0, .long 0, .int 0, .int 0, .ref z10, .ref z11, .ref z12, .ref z13, .ref z14, .ref z15, .ref z16, .ref z17, .ref z18, .ref z19, .int 0, .int 0, .ref z22, .ref z23, .ref z24, .ref z25, .ref z26, .ref z27, .ref z28, .ref z29, .ref z30, .ref z31, .ref z32, .ref z33, .int 0, .long 0, .ref z36, .ref z37, .ref z38, .ref z39, .ref z40, .ref z41, .ref z42, .ref z43, .ref z44, .ref z45, .ref z46, .ref z47, .ref z48, .int 0, .int 10, .int 0, .int 0, .int 0, .int 0, .ref z55, .ref z56, .int 0, .int 0, .ref z59, .ref z60, .ref z61, .int 0, .long 0])), (ou, .inl (γ.2.1 1, 1, .inr (.inl fo9_2547)))] s H locs := hw
  refine W.eq (g2 := F0 m 1124 ls [.int 0]) rfl ?_
  refine lv_istore (lv' := [(5, .int 0), (4, .int 0), (3, .ref ou), (2, .ref z), (1, .ref x), (0, .ref b)]) hx hb dL_law_1124 hl (by decide) rfl (fun ls hl => ?_)
  refine lv_aload_n hx hb dL_law_1126 rfl (lv_at hl 3 rfl) ?_
  refine lv_aload_n hx hb dL_law_1127 rfl (lv_at hl 5 rfl) ?_
  refine lv_iload hx hb dL_law_1128 (lv_at hl 1 rfl) ?_
  refine lv_iconst (v := 1) hx hb dL_law_1130 (by decide) ?_
  refine lv_iadd hx hb dL_law_1131 ?_
  refine lv_topi (fun x_2549 ex_2549 => ?_)
  obtain rfl : x_2549 = 1 := ex_2549.trans (by decide)
  refine va_sld hx hb hX hbl hbA hw.2.2 (k_in0 (by decide)) dL_law_1132 ?_
  refine lv_topi (fun x_2550 ex_2550 => ?_)
  obtain rfl : x_2550 = xs 1 := ex_2550
  refine lv_aload_n hx hb dL_law_1133 rfl (lv_at hl 5 rfl) ?_
  refine lv_iload hx hb dL_law_1134 (lv_at hl 1 rfl) ?_
  refine lv_iconst (v := 2) hx hb dL_law_1136 (by decide) ?_
  refine lv_iadd hx hb dL_law_1137 ?_
  refine lv_topi (fun x_2551 ex_2551 => ?_)
  obtain rfl : x_2551 = 2 := ex_2551.trans (by decide)
  refine va_sld hx hb hX hbl hbA hw.2.2 (k_in0 (by decide)) dL_law_1138 ?_
  refine lv_topi (fun x_2552 ex_2552 => ?_)
  obtain rfl : x_2552 = xs 2 := ex_2552
  refine lv_aload_n hx hb dL_law_1139 rfl (lv_at hl 5 rfl) ?_
  refine lv_iload hx hb dL_law_1140 (lv_at hl 1 rfl) ?_
  refine lv_iconst (v := 3) hx hb dL_law_1142 (by decide) ?_
  refine lv_iadd hx hb dL_law_1143 ?_
  refine lv_topi (fun x_2553 ex_2553 => ?_)
  obtain rfl : x_2553 = 3 := ex_2553.trans (by decide)
  refine va_sld hx hb hX hbl hbA hw.2.2 (k_in0 (by decide)) dL_law_1144 ?_
  refine lv_topi (fun x_2554 ex_2554 => ?_)
  obtain rfl : x_2554 = xs 3 := ex_2554
  refine lv_aload_n hx hb dL_law_1145 rfl (lv_at hl 5 rfl) ?_
  refine lv_iload hx hb dL_law_1146 (lv_at hl 1 rfl) ?_
  refine lv_iconst (v := 4) hx hb dL_law_1148 (by decide) ?_
  refine lv_iadd hx hb dL_law_1149 ?_
  refine lv_topi (fun x_2555 ex_2555 => ?_)
  obtain rfl : x_2555 = 4 := ex_2555.trans (by decide)
  refine va_sld hx hb hX hbl hbA hw.2.2 (k_in0 (by decide)) dL_law_1150 ?_
  refine lv_topi (fun x_2556 ex_2556 => ?_)
  obtain rfl : x_2556 = xs 4 := ex_2556
  refine k_V (wr := [(ou, .inl (γ.2.1 1, 1, .inr (.inl fo9_2547)))]) 4 gw_1780 gw_1781 gw_1782 gw_15 gw_1783 hd_X12_rests hC hw (c_X12_rests_r γ l z z2 z10 z11 z12 z13 z14 z15 z16 z17 z18 z19 z22 z23 z24 z25 z26 z27 z28 z29 z30 z31 z32 z33 z36 z37 z38 z39 z40 z41 z42 z43 z44 z45 z46 z47 z48 z55 z56 z59 z60 z61 (xs 1) (xs 2) (xs 3) (xs 4) v hb0 hb1 hl0 hl1 hg0 hg1 hw0 hK) ⟨by decide, by decide⟩ ⟨by decide, by decide⟩ hl.1 rfl 0 rfl rfl rfl (Nat.le_of_ble_eq_true rfl) [0] [1] rfl rfl rfl rfl (by decide) dL_law_1151 (fun r w1 H locs hq hw => ?_)
  obtain ⟨rfl, rfl⟩ := hq
  have hw : kW γ A [(ou, .inl (γ.2.1 1, 1, .inr (.inl fo9_2547))), (z, .inr (11, [.int 0, .int 0, .ref z2, .int 0, .int 0, .int 0, .int 0, .long 0, .int 0, .int 0, .ref z10, .ref z11, .ref z12, .ref z13, .ref z14, .ref z15, .ref z16, .ref z17, .ref z18, .ref z19, .int 0, .int 0, .ref z22, .ref z23, .ref z24, .ref z25, .ref z26, .ref z27, .ref z28, .ref z29, .ref z30, .ref z31, .ref z32, .ref z33, .int 0, .long 0, .ref z36, .ref z37, .ref z38, .ref z39, .ref z40, .ref z41, .ref z42, .ref z43, .ref z44, .ref z45, .ref z46, .ref z47, .ref z48, .int 0, .int 10, .int 0, .int 0, .int 0, .int 0, .ref z55, .ref z56, .int 0, .int 0, .ref z59, .ref z60, .ref z61, .int 0, .long 0]))] s H locs := hw
  refine W.eq (g2 := F0 m 1154 ls [.int v]) rfl ?_
  refine lv_istore (lv' := [(6, .int v), (5, .int 0), (4, .int 0), (3, .ref ou), (2, .ref z), (1, .ref x), (0, .ref b)]) hx hb dL_law_1154 hl (by decide) rfl (fun ls hl => ?_)
  refine lv_aload_n hx hb dL_law_1156 rfl (lv_at hl 4 rfl) ?_
  refine k_V (wr := [(ou, .inl (γ.2.1 1, 1, .inr (.inl fo9_2547)))]) 0 gw_1385 gw_1386 gw_1387 gw_15 gw_1388 hd_X12_thrown hC hw (c_X12_thrown γ l z z2 z10 z11 z12 z13 z14 z15 z16 z17 z18 z19 z22 z23 z24 z25 z26 z27 z28 z29 z30 z31 z32 z33 z36 z37 z38 z39 z40 z41 z42 z43 z44 z45 z46 z47 z48 z55 z56 z59 z60 z61 0 0 0 0 0 0 0 0 0 0 0 0 0 10 0 0 0 0 0 0 0 0 0) ⟨by decide, by decide⟩ ⟨by decide, by decide⟩ hl.1 rfl 1 rfl rfl rfl (Nat.le_of_ble_eq_true rfl) [1] [0] rfl rfl rfl rfl (by decide) dL_law_1157 (fun r w1 H locs hq hw => ?_)
  obtain ⟨rfl, rfl⟩ := hq
  have hw : kW γ A [(ou, .inl (γ.2.1 1, 1, .inr (.inl fo9_2547)))] s H locs := hw
  refine W.eq (g2 := F0 m 1160 ls [.int 0]) rfl ?_
  refine lv_iload hx hb dL_law_1160 (lv_at hl 1 rfl) ?_
  refine lv_icmp_eq (tgt := 1167) hx hb dL_law_1162 (by decide) (fun _ => ?_) (fun h => absurd (by decide) h)
  refine lv_iload hx hb dL_law_1167 (lv_at hl 1 rfl) ?_
  refine lv_if_ne (tgt := 1184) hx hb dL_law_1169 (by decide) (fun h => absurd rfl h) (fun _ => ?_)
  refine lv_aload_n hx hb dL_law_1172 rfl (lv_at hl 3 rfl) ?_
  refine lv_iconst (v := 0) hx hb dL_law_1173 (by decide) ?_
  refine k_lald hC hw 0 rfl (k_in0 (by decide)) dL_law_1174 ?_
  refine lv_topl (fun x_2557 ex_2557 => ?_)
  obtain rfl : x_2557 = (v : Int32).toInt64 := (show x_2557 = fo9_2547 0 from ex_2557).trans g_2548
  refine lv_iload hx hb dL_law_1175 (lv_at hl 0 rfl) ?_
  refine lv_i2l hx hb dL_law_1177 rfl ?_
  refine lv_topl (fun x_2558 ex_2558 => ?_)
  obtain rfl : x_2558 = (v : Int32).toInt64 := ex_2558
  refine W.lcmp hx hb dL_law_1178 ?_
  refine lv_topi (fun x_2559 ex_2559 => ?_)
  obtain rfl : x_2559 = 0 := ex_2559.trans (k_cmp_self _)
  refine lv_if_eq (tgt := 1184) hx hb dL_law_1179 (by decide) (fun _ => ?_) (fun h => absurd (by decide) h)
  refine lv_goto (tgt := 1370) hx hb dL_law_1184 (by decide) ?_
  exact law_end hC hr hlocks hX hbl hbA hAs hl9 _ _ (kW.sub hw [] rfl rfl) (by decide) (by decide) _ (lv_sub hl [2, 6] rfl)

set_option maxHeartbeats 4000000 in
set_option maxRecDepth 100000 in
theorem lc_27_bo_l {γ : kΓ} {l : Launch} {p : Program} {e : Env} {s : State} {m : MethodId} {below : List Frame} {meth : Method} {c : Code} {A : Nat → Prop} {b : Nat} {xs : Nat → Int32} (hC : kC γ p s m [Value.ref b].toArray c code 7 RL A) (hr : meth.sig.returnType = ret) (hlocks : meth.locks = false) (hX : va_X b 7 xs s s.heap) (hbl : b < s.heap.size) (hbA : ¬ A b) (hAs : ∀ q, A q → s.heap.size ≤ q) (hl9 : l.stackTraces = false) (x : Nat) (x0 : Nat) (x1 : Nat) (x2 : Nat) (x3 : Nat) (x4 : Nat) (x5 : Nat) (x6 : Nat) (x7 : Nat) (x8 : Nat) (x9 : Nat) (x10 : Nat) (z : Nat) (z2 : Nat) (z10 : Nat) (z11 : Nat) (z12 : Nat) (z13 : Nat) (z14 : Nat) (z15 : Nat) (z16 : Nat) (z17 : Nat) (z18 : Nat) (z19 : Nat) (z22 : Nat) (z23 : Nat) (z24 : Nat) (z25 : Nat) (z26 : Nat) (z27 : Nat) (z28 : Nat) (z29 : Nat) (z30 : Nat) (z31 : Nat) (z32 : Nat) (z33 : Nat) (z36 : Nat) (z37 : Nat) (z38 : Nat) (z39 : Nat) (z40 : Nat) (z41 : Nat) (z42 : Nat) (z43 : Nat) (z44 : Nat) (z45 : Nat) (z46 : Nat) (z47 : Nat) (z48 : Nat) (z55 : Nat) (z56 : Nat) (z59 : Nat) (z60 : Nat) (z61 : Nat) (ou : Nat) (h1 : (xs 1) < 0) (H : Heap) (locs : List Loc) (hw : kW γ A [(x, .inr (10, [.ref x0, .ref x1, .ref x2, .ref x3, .ref x4, .ref x5, .ref x6, .ref x7, .ref x8, .ref x9, .ref x10])), (z, .inr (11, [.int 0, .int 0, .ref z2, .int 0, .int 0, .int 0, .int 0, .long 0, .int 0, .int 0, .ref z10, .ref z11, .ref z12, .ref z13, .ref z14, .ref z15, .ref z16, .ref z17, .ref z18, .ref z19, .int 0, .int 0, .ref z22, .ref z23, .ref z24, .ref z25, .ref z26, .ref z27, .ref z28, .ref z29, .ref z30, .ref z31, .ref z32, .ref z33, .int 0, .long 0, .ref z36, .ref z37, .ref z38, .ref z39, .ref z40, .ref z41, .ref z42, .ref z43, .ref z44, .ref z45, .ref z46, .ref z47, .ref z48, .int 0, .int 10, .int 0, .int 0, .int 0, .int 0, .ref z55, .ref z56, .int 0, .int 0, .ref z59, .ref z60, .ref z61, .int 0, .long 0])), (ou, .inl (γ.2.1 1, 1, .inr (.inl (fun _ => 0))))] s H locs) (ls : Array Slot) (hl : lv_has ls 7 [(4, .int 0), (3, .ref ou), (2, .ref z), (1, .ref x), (0, .ref b)]) : W p l e room_1 s m [Value.ref b].toArray below meth c H locs 251 13922 (lw_Z below #[Value.ref b] s) (F0 m 1095 ls []) := by
  have hx := hC.1
  have hb := hC.2.1
  refine lv_aload_n hx hb dL_law_1095 rfl (lv_at hl 3 rfl) ?_
  refine lv_aload_n hx hb dL_law_1096 rfl (lv_at hl 4 rfl) ?_
  refine lv_iload hx hb dL_law_1097 (lv_at hl 0 rfl) ?_
  refine lv_iconst (v := 1) hx hb dL_law_1099 (by decide) ?_
  refine lv_iadd hx hb dL_law_1100 ?_
  refine lv_topi (fun x_2560 ex_2560 => ?_)
  obtain rfl : x_2560 = 1 := ex_2560.trans (by decide)
  refine va_sld hx hb hX hbl hbA hw.2.2 (k_in0 (by decide)) dL_law_1101 ?_
  refine lv_topi (fun x_2561 ex_2561 => ?_)
  obtain rfl : x_2561 = xs 1 := ex_2561
  refine lv_aload_n hx hb dL_law_1102 rfl (lv_at hl 4 rfl) ?_
  refine lv_iload hx hb dL_law_1103 (lv_at hl 0 rfl) ?_
  refine lv_iconst (v := 2) hx hb dL_law_1105 (by decide) ?_
  refine lv_iadd hx hb dL_law_1106 ?_
  refine lv_topi (fun x_2562 ex_2562 => ?_)
  obtain rfl : x_2562 = 2 := ex_2562.trans (by decide)
  refine va_sld hx hb hX hbl hbA hw.2.2 (k_in0 (by decide)) dL_law_1107 ?_
  refine lv_topi (fun x_2563 ex_2563 => ?_)
  obtain rfl : x_2563 = xs 2 := ex_2563
  refine lv_aload_n hx hb dL_law_1108 rfl (lv_at hl 4 rfl) ?_
  refine lv_iload hx hb dL_law_1109 (lv_at hl 0 rfl) ?_
  refine lv_iconst (v := 3) hx hb dL_law_1111 (by decide) ?_
  refine lv_iadd hx hb dL_law_1112 ?_
  refine lv_topi (fun x_2564 ex_2564 => ?_)
  obtain rfl : x_2564 = 3 := ex_2564.trans (by decide)
  refine va_sld hx hb hX hbl hbA hw.2.2 (k_in0 (by decide)) dL_law_1113 ?_
  refine lv_topi (fun x_2565 ex_2565 => ?_)
  obtain rfl : x_2565 = xs 3 := ex_2565
  refine lv_aload_n hx hb dL_law_1114 rfl (lv_at hl 4 rfl) ?_
  refine lv_iload hx hb dL_law_1115 (lv_at hl 0 rfl) ?_
  refine lv_iconst (v := 4) hx hb dL_law_1117 (by decide) ?_
  refine lv_iadd hx hb dL_law_1118 ?_
  refine lv_topi (fun x_2566 ex_2566 => ?_)
  obtain rfl : x_2566 = 4 := ex_2566.trans (by decide)
  refine va_sld hx hb hX hbl hbA hw.2.2 (k_in0 (by decide)) dL_law_1119 ?_
  refine lv_topi (fun x_2567 ex_2567 => ?_)
  obtain rfl : x_2567 = xs 4 := ex_2567
  refine lv_aload_n hx hb dL_law_1120 rfl (lv_at hl 1 rfl) ?_
  refine k_SW (wr := [(z, .inr (11, [.int 0, .int 0, .ref z2, .int 0, .int 0, .int 0, .int 0, .long 0, .int 0, .int 0, .ref z10, .ref z11, .ref z12, .ref z13, .ref z14, .ref z15, .ref z16, .ref z17, .ref z18, .ref z19, .int 0, .int 0, .ref z22, .ref z23, .ref z24, .ref z25, .ref z26, .ref z27, .ref z28, .ref z29, .ref z30, .ref z31, .ref z32, .ref z33, .int 0, .long 0, .ref z36, .ref z37, .ref z38, .ref z39, .ref z40, .ref z41, .ref z42, .ref z43, .ref z44, .ref z45, .ref z46, .ref z47, .ref z48, .int 0, .int 10, .int 0, .int 0, .int 0, .int 0, .ref z55, .ref z56, .int 0, .int 0, .ref z59, .ref z60, .ref z61, .int 0, .long 0]))]) 6 gw_1146 gw_1147 gw_0 gw_1148 hd_L_rests hC hw (c_L_rests_bo_l γ l hl9 x x0 x1 x2 x3 x4 x5 x6 x7 x8 x9 x10 (xs 1) (xs 2) (xs 3) (xs 4) ou (fun _ => 0) h1) ⟨by decide, by decide⟩ ⟨by decide, by decide⟩ hl.1 rfl rfl (Nat.le_of_ble_eq_true rfl) [0, 2] [1] rfl rfl rfl rfl (by decide) dL_law_1121 (fun r w1 H locs hq hw => ?_)
  obtain ⟨rfl, rfl⟩ := hq
  have hw : kW γ A [(z, .inr (11, [.int 0, .int 0, .ref z2, .int 0, .int 0, .int 0, .int 0, .long 0, .int 0, .int 0, .ref z10, .ref z11, .ref z12, .ref z13, .ref z14, .ref z15, .ref z16, .ref z17, .ref z18, .ref z19, .int 0, .int 0, .ref z22, .ref z23, .ref z24, .ref z25, .ref z26, .ref z27, .ref z28, .ref z29, .ref z30, .ref z31, .ref z32, .ref z33, .int 0, .long 0, .ref z36, .ref z37, .ref z38, .ref z39, .ref z40, .ref z41, .ref z42, .ref z43, .ref z44, .ref z45, .ref z46, .ref z47, .ref z48, .int 0, .int 10, .int 0, .int 0, .int 0, .int 0, .ref z55, .ref z56, .int 0, .int 0, .ref z59, .ref z60, .ref z61, .int 0, .long 0])), (ou, .inl (γ.2.1 1, 1, .inr (.inl (fun _ => 0))))] s H locs := hw
  refine W.eq (g2 := F0 m 1124 ls [.int 1]) rfl ?_
  refine W.widen (k := 252) (n := 13928) (by decide) (by decide) ?_
  refine lv_istore (lv' := [(5, .int 1), (4, .int 0), (3, .ref ou), (2, .ref z), (1, .ref x), (0, .ref b)]) hx hb dL_law_1124 hl (by decide) rfl (fun ls hl => ?_)
  refine lv_aload_n hx hb dL_law_1126 rfl (lv_at hl 3 rfl) ?_
  refine lv_aload_n hx hb dL_law_1127 rfl (lv_at hl 5 rfl) ?_
  refine lv_iload hx hb dL_law_1128 (lv_at hl 1 rfl) ?_
  refine lv_iconst (v := 1) hx hb dL_law_1130 (by decide) ?_
  refine lv_iadd hx hb dL_law_1131 ?_
  refine lv_topi (fun x_2568 ex_2568 => ?_)
  obtain rfl : x_2568 = 1 := ex_2568.trans (by decide)
  refine va_sld hx hb hX hbl hbA hw.2.2 (k_in0 (by decide)) dL_law_1132 ?_
  refine lv_topi (fun x_2569 ex_2569 => ?_)
  obtain rfl : x_2569 = xs 1 := ex_2569
  refine lv_aload_n hx hb dL_law_1133 rfl (lv_at hl 5 rfl) ?_
  refine lv_iload hx hb dL_law_1134 (lv_at hl 1 rfl) ?_
  refine lv_iconst (v := 2) hx hb dL_law_1136 (by decide) ?_
  refine lv_iadd hx hb dL_law_1137 ?_
  refine lv_topi (fun x_2570 ex_2570 => ?_)
  obtain rfl : x_2570 = 2 := ex_2570.trans (by decide)
  refine va_sld hx hb hX hbl hbA hw.2.2 (k_in0 (by decide)) dL_law_1138 ?_
  refine lv_topi (fun x_2571 ex_2571 => ?_)
  obtain rfl : x_2571 = xs 2 := ex_2571
  refine lv_aload_n hx hb dL_law_1139 rfl (lv_at hl 5 rfl) ?_
  refine lv_iload hx hb dL_law_1140 (lv_at hl 1 rfl) ?_
  refine lv_iconst (v := 3) hx hb dL_law_1142 (by decide) ?_
  refine lv_iadd hx hb dL_law_1143 ?_
  refine lv_topi (fun x_2572 ex_2572 => ?_)
  obtain rfl : x_2572 = 3 := ex_2572.trans (by decide)
  refine va_sld hx hb hX hbl hbA hw.2.2 (k_in0 (by decide)) dL_law_1144 ?_
  refine lv_topi (fun x_2573 ex_2573 => ?_)
  obtain rfl : x_2573 = xs 3 := ex_2573
  refine lv_aload_n hx hb dL_law_1145 rfl (lv_at hl 5 rfl) ?_
  refine lv_iload hx hb dL_law_1146 (lv_at hl 1 rfl) ?_
  refine lv_iconst (v := 4) hx hb dL_law_1148 (by decide) ?_
  refine lv_iadd hx hb dL_law_1149 ?_
  refine lv_topi (fun x_2574 ex_2574 => ?_)
  obtain rfl : x_2574 = 4 := ex_2574.trans (by decide)
  refine va_sld hx hb hX hbl hbA hw.2.2 (k_in0 (by decide)) dL_law_1150 ?_
  refine lv_topi (fun x_2575 ex_2575 => ?_)
  obtain rfl : x_2575 = xs 4 := ex_2575
  refine k_V (wr := [(ou, .inl (γ.2.1 1, 1, .inr (.inl (fun _ => 0))))]) 4 gw_1780 gw_1781 gw_1782 gw_15 gw_1783 hd_X12_rests hC hw (c_X12_rests_bo_l γ l z z2 z10 z11 z12 z13 z14 z15 z16 z17 z18 z19 z22 z23 z24 z25 z26 z27 z28 z29 z30 z31 z32 z33 z36 z37 z38 z39 z40 z41 z42 z43 z44 z45 z46 z47 z48 z55 z56 z59 z60 z61 (xs 1) (xs 2) (xs 3) (xs 4) h1) ⟨by decide, by decide⟩ ⟨by decide, by decide⟩ hl.1 rfl 0 rfl rfl rfl (Nat.le_of_ble_eq_true rfl) [0] [1] rfl rfl rfl rfl (by decide) dL_law_1151 (fun r w1 H locs hq hw => ?_)
  obtain ⟨rfl, rfl⟩ := hq
  have hw : kW γ A [(ou, .inl (γ.2.1 1, 1, .inr (.inl (fun _ => 0)))), (z, .inr (11, [.int 1, .int 0, .ref z2, .int 0, .int 0, .int 0, .int 0, .long 0, .int 0, .int 0, .ref z10, .ref z11, .ref z12, .ref z13, .ref z14, .ref z15, .ref z16, .ref z17, .ref z18, .ref z19, .int 0, .int 0, .ref z22, .ref z23, .ref z24, .ref z25, .ref z26, .ref z27, .ref z28, .ref z29, .ref z30, .ref z31, .ref z32, .ref z33, .int 0, .long 0, .ref z36, .ref z37, .ref z38, .ref z39, .ref z40, .ref z41, .ref z42, .ref z43, .ref z44, .ref z45, .ref z46, .ref z47, .ref z48, .int 0, .int 10, .int 0, .int 0, .int 0, .int 0, .ref z55, .ref z56, .int 0, .int 0, .ref z59, .ref z60, .ref z61, .int 0, .long 0]))] s H locs := hw
  refine W.eq (g2 := F0 m 1154 ls [.int 0]) rfl ?_
  refine lv_istore (lv' := [(6, .int 0), (5, .int 1), (4, .int 0), (3, .ref ou), (2, .ref z), (1, .ref x), (0, .ref b)]) hx hb dL_law_1154 hl (by decide) rfl (fun ls hl => ?_)
  refine lv_aload_n hx hb dL_law_1156 rfl (lv_at hl 4 rfl) ?_
  refine k_V (wr := [(ou, .inl (γ.2.1 1, 1, .inr (.inl (fun _ => 0))))]) 0 gw_1385 gw_1386 gw_1387 gw_15 gw_1388 hd_X12_thrown hC hw (c_X12_thrown γ l z z2 z10 z11 z12 z13 z14 z15 z16 z17 z18 z19 z22 z23 z24 z25 z26 z27 z28 z29 z30 z31 z32 z33 z36 z37 z38 z39 z40 z41 z42 z43 z44 z45 z46 z47 z48 z55 z56 z59 z60 z61 0 0 0 0 0 0 0 0 0 0 0 0 0 10 0 0 0 0 0 0 0 0 1) ⟨by decide, by decide⟩ ⟨by decide, by decide⟩ hl.1 rfl 1 rfl rfl rfl (Nat.le_of_ble_eq_true rfl) [1] [0] rfl rfl rfl rfl (by decide) dL_law_1157 (fun r w1 H locs hq hw => ?_)
  obtain ⟨rfl, rfl⟩ := hq
  have hw : kW γ A [(ou, .inl (γ.2.1 1, 1, .inr (.inl (fun _ => 0))))] s H locs := hw
  refine W.eq (g2 := F0 m 1160 ls [.int 1]) rfl ?_
  refine lv_iload hx hb dL_law_1160 (lv_at hl 1 rfl) ?_
  refine lv_icmp_eq (tgt := 1167) hx hb dL_law_1162 (by decide) (fun _ => ?_) (fun h => absurd (by decide) h)
  refine lv_iload hx hb dL_law_1167 (lv_at hl 1 rfl) ?_
  refine lv_if_ne (tgt := 1184) hx hb dL_law_1169 (by decide) (fun _ => ?_) (fun h => absurd h (by decide))
  refine lv_goto (tgt := 1370) hx hb dL_law_1184 (by decide) ?_
  exact law_end hC hr hlocks hX hbl hbA hAs hl9 _ _ (kW.sub hw [] rfl rfl) (by decide) (by decide) _ (lv_sub hl [2, 6] rfl)

set_option maxHeartbeats 4000000 in
set_option maxRecDepth 100000 in
theorem lc_27_bo_h {γ : kΓ} {l : Launch} {p : Program} {e : Env} {s : State} {m : MethodId} {below : List Frame} {meth : Method} {c : Code} {A : Nat → Prop} {b : Nat} {xs : Nat → Int32} (hC : kC γ p s m [Value.ref b].toArray c code 7 RL A) (hr : meth.sig.returnType = ret) (hlocks : meth.locks = false) (hX : va_X b 7 xs s s.heap) (hbl : b < s.heap.size) (hbA : ¬ A b) (hAs : ∀ q, A q → s.heap.size ≤ q) (hl9 : l.stackTraces = false) (x : Nat) (x0 : Nat) (x1 : Nat) (x2 : Nat) (x3 : Nat) (x4 : Nat) (x5 : Nat) (x6 : Nat) (x7 : Nat) (x8 : Nat) (x9 : Nat) (x10 : Nat) (z : Nat) (z2 : Nat) (z10 : Nat) (z11 : Nat) (z12 : Nat) (z13 : Nat) (z14 : Nat) (z15 : Nat) (z16 : Nat) (z17 : Nat) (z18 : Nat) (z19 : Nat) (z22 : Nat) (z23 : Nat) (z24 : Nat) (z25 : Nat) (z26 : Nat) (z27 : Nat) (z28 : Nat) (z29 : Nat) (z30 : Nat) (z31 : Nat) (z32 : Nat) (z33 : Nat) (z36 : Nat) (z37 : Nat) (z38 : Nat) (z39 : Nat) (z40 : Nat) (z41 : Nat) (z42 : Nat) (z43 : Nat) (z44 : Nat) (z45 : Nat) (z46 : Nat) (z47 : Nat) (z48 : Nat) (z55 : Nat) (z56 : Nat) (z59 : Nat) (z60 : Nat) (z61 : Nat) (ou : Nat) (h1 : ¬ (xs 1) < 0) (h2 : 9 < (xs 1)) (H : Heap) (locs : List Loc) (hw : kW γ A [(x, .inr (10, [.ref x0, .ref x1, .ref x2, .ref x3, .ref x4, .ref x5, .ref x6, .ref x7, .ref x8, .ref x9, .ref x10])), (z, .inr (11, [.int 0, .int 0, .ref z2, .int 0, .int 0, .int 0, .int 0, .long 0, .int 0, .int 0, .ref z10, .ref z11, .ref z12, .ref z13, .ref z14, .ref z15, .ref z16, .ref z17, .ref z18, .ref z19, .int 0, .int 0, .ref z22, .ref z23, .ref z24, .ref z25, .ref z26, .ref z27, .ref z28, .ref z29, .ref z30, .ref z31, .ref z32, .ref z33, .int 0, .long 0, .ref z36, .ref z37, .ref z38, .ref z39, .ref z40, .ref z41, .ref z42, .ref z43, .ref z44, .ref z45, .ref z46, .ref z47, .ref z48, .int 0, .int 10, .int 0, .int 0, .int 0, .int 0, .ref z55, .ref z56, .int 0, .int 0, .ref z59, .ref z60, .ref z61, .int 0, .long 0])), (ou, .inl (γ.2.1 1, 1, .inr (.inl (fun _ => 0))))] s H locs) (ls : Array Slot) (hl : lv_has ls 7 [(4, .int 0), (3, .ref ou), (2, .ref z), (1, .ref x), (0, .ref b)]) : W p l e room_1 s m [Value.ref b].toArray below meth c H locs 251 13922 (lw_Z below #[Value.ref b] s) (F0 m 1095 ls []) := by
  have hx := hC.1
  have hb := hC.2.1
  refine lv_aload_n hx hb dL_law_1095 rfl (lv_at hl 3 rfl) ?_
  refine lv_aload_n hx hb dL_law_1096 rfl (lv_at hl 4 rfl) ?_
  refine lv_iload hx hb dL_law_1097 (lv_at hl 0 rfl) ?_
  refine lv_iconst (v := 1) hx hb dL_law_1099 (by decide) ?_
  refine lv_iadd hx hb dL_law_1100 ?_
  refine lv_topi (fun x_2576 ex_2576 => ?_)
  obtain rfl : x_2576 = 1 := ex_2576.trans (by decide)
  refine va_sld hx hb hX hbl hbA hw.2.2 (k_in0 (by decide)) dL_law_1101 ?_
  refine lv_topi (fun x_2577 ex_2577 => ?_)
  obtain rfl : x_2577 = xs 1 := ex_2577
  refine lv_aload_n hx hb dL_law_1102 rfl (lv_at hl 4 rfl) ?_
  refine lv_iload hx hb dL_law_1103 (lv_at hl 0 rfl) ?_
  refine lv_iconst (v := 2) hx hb dL_law_1105 (by decide) ?_
  refine lv_iadd hx hb dL_law_1106 ?_
  refine lv_topi (fun x_2578 ex_2578 => ?_)
  obtain rfl : x_2578 = 2 := ex_2578.trans (by decide)
  refine va_sld hx hb hX hbl hbA hw.2.2 (k_in0 (by decide)) dL_law_1107 ?_
  refine lv_topi (fun x_2579 ex_2579 => ?_)
  obtain rfl : x_2579 = xs 2 := ex_2579
  refine lv_aload_n hx hb dL_law_1108 rfl (lv_at hl 4 rfl) ?_
  refine lv_iload hx hb dL_law_1109 (lv_at hl 0 rfl) ?_
  refine lv_iconst (v := 3) hx hb dL_law_1111 (by decide) ?_
  refine lv_iadd hx hb dL_law_1112 ?_
  refine lv_topi (fun x_2580 ex_2580 => ?_)
  obtain rfl : x_2580 = 3 := ex_2580.trans (by decide)
  refine va_sld hx hb hX hbl hbA hw.2.2 (k_in0 (by decide)) dL_law_1113 ?_
  refine lv_topi (fun x_2581 ex_2581 => ?_)
  obtain rfl : x_2581 = xs 3 := ex_2581
  refine lv_aload_n hx hb dL_law_1114 rfl (lv_at hl 4 rfl) ?_
  refine lv_iload hx hb dL_law_1115 (lv_at hl 0 rfl) ?_
  refine lv_iconst (v := 4) hx hb dL_law_1117 (by decide) ?_
  refine lv_iadd hx hb dL_law_1118 ?_
  refine lv_topi (fun x_2582 ex_2582 => ?_)
  obtain rfl : x_2582 = 4 := ex_2582.trans (by decide)
  refine va_sld hx hb hX hbl hbA hw.2.2 (k_in0 (by decide)) dL_law_1119 ?_
  refine lv_topi (fun x_2583 ex_2583 => ?_)
  obtain rfl : x_2583 = xs 4 := ex_2583
  refine lv_aload_n hx hb dL_law_1120 rfl (lv_at hl 1 rfl) ?_
  refine k_SW (wr := [(z, .inr (11, [.int 0, .int 0, .ref z2, .int 0, .int 0, .int 0, .int 0, .long 0, .int 0, .int 0, .ref z10, .ref z11, .ref z12, .ref z13, .ref z14, .ref z15, .ref z16, .ref z17, .ref z18, .ref z19, .int 0, .int 0, .ref z22, .ref z23, .ref z24, .ref z25, .ref z26, .ref z27, .ref z28, .ref z29, .ref z30, .ref z31, .ref z32, .ref z33, .int 0, .long 0, .ref z36, .ref z37, .ref z38, .ref z39, .ref z40, .ref z41, .ref z42, .ref z43, .ref z44, .ref z45, .ref z46, .ref z47, .ref z48, .int 0, .int 10, .int 0, .int 0, .int 0, .int 0, .ref z55, .ref z56, .int 0, .int 0, .ref z59, .ref z60, .ref z61, .int 0, .long 0]))]) 6 gw_1146 gw_1147 gw_0 gw_1148 hd_L_rests hC hw (c_L_rests_bo_h γ l hl9 x x0 x1 x2 x3 x4 x5 x6 x7 x8 x9 x10 (xs 1) (xs 2) (xs 3) (xs 4) ou (fun _ => 0) h1 h2) ⟨by decide, by decide⟩ ⟨by decide, by decide⟩ hl.1 rfl rfl (Nat.le_of_ble_eq_true rfl) [0, 2] [1] rfl rfl rfl rfl (by decide) dL_law_1121 (fun r w1 H locs hq hw => ?_)
  obtain ⟨rfl, rfl⟩ := hq
  have hw : kW γ A [(z, .inr (11, [.int 0, .int 0, .ref z2, .int 0, .int 0, .int 0, .int 0, .long 0, .int 0, .int 0, .ref z10, .ref z11, .ref z12, .ref z13, .ref z14, .ref z15, .ref z16, .ref z17, .ref z18, .ref z19, .int 0, .int 0, .ref z22, .ref z23, .ref z24, .ref z25, .ref z26, .ref z27, .ref z28, .ref z29, .ref z30, .ref z31, .ref z32, .ref z33, .int 0, .long 0, .ref z36, .ref z37, .ref z38, .ref z39, .ref z40, .ref z41, .ref z42, .ref z43, .ref z44, .ref z45, .ref z46, .ref z47, .ref z48, .int 0, .int 10, .int 0, .int 0, .int 0, .int 0, .ref z55, .ref z56, .int 0, .int 0, .ref z59, .ref z60, .ref z61, .int 0, .long 0])), (ou, .inl (γ.2.1 1, 1, .inr (.inl (fun _ => 0))))] s H locs := hw
  refine W.eq (g2 := F0 m 1124 ls [.int 1]) rfl ?_
  refine W.widen (k := 252) (n := 13928) (by decide) (by decide) ?_
  refine lv_istore (lv' := [(5, .int 1), (4, .int 0), (3, .ref ou), (2, .ref z), (1, .ref x), (0, .ref b)]) hx hb dL_law_1124 hl (by decide) rfl (fun ls hl => ?_)
  refine lv_aload_n hx hb dL_law_1126 rfl (lv_at hl 3 rfl) ?_
  refine lv_aload_n hx hb dL_law_1127 rfl (lv_at hl 5 rfl) ?_
  refine lv_iload hx hb dL_law_1128 (lv_at hl 1 rfl) ?_
  refine lv_iconst (v := 1) hx hb dL_law_1130 (by decide) ?_
  refine lv_iadd hx hb dL_law_1131 ?_
  refine lv_topi (fun x_2584 ex_2584 => ?_)
  obtain rfl : x_2584 = 1 := ex_2584.trans (by decide)
  refine va_sld hx hb hX hbl hbA hw.2.2 (k_in0 (by decide)) dL_law_1132 ?_
  refine lv_topi (fun x_2585 ex_2585 => ?_)
  obtain rfl : x_2585 = xs 1 := ex_2585
  refine lv_aload_n hx hb dL_law_1133 rfl (lv_at hl 5 rfl) ?_
  refine lv_iload hx hb dL_law_1134 (lv_at hl 1 rfl) ?_
  refine lv_iconst (v := 2) hx hb dL_law_1136 (by decide) ?_
  refine lv_iadd hx hb dL_law_1137 ?_
  refine lv_topi (fun x_2586 ex_2586 => ?_)
  obtain rfl : x_2586 = 2 := ex_2586.trans (by decide)
  refine va_sld hx hb hX hbl hbA hw.2.2 (k_in0 (by decide)) dL_law_1138 ?_
  refine lv_topi (fun x_2587 ex_2587 => ?_)
  obtain rfl : x_2587 = xs 2 := ex_2587
  refine lv_aload_n hx hb dL_law_1139 rfl (lv_at hl 5 rfl) ?_
  refine lv_iload hx hb dL_law_1140 (lv_at hl 1 rfl) ?_
  refine lv_iconst (v := 3) hx hb dL_law_1142 (by decide) ?_
  refine lv_iadd hx hb dL_law_1143 ?_
  refine lv_topi (fun x_2588 ex_2588 => ?_)
  obtain rfl : x_2588 = 3 := ex_2588.trans (by decide)
  refine va_sld hx hb hX hbl hbA hw.2.2 (k_in0 (by decide)) dL_law_1144 ?_
  refine lv_topi (fun x_2589 ex_2589 => ?_)
  obtain rfl : x_2589 = xs 3 := ex_2589
  refine lv_aload_n hx hb dL_law_1145 rfl (lv_at hl 5 rfl) ?_
  refine lv_iload hx hb dL_law_1146 (lv_at hl 1 rfl) ?_
  refine lv_iconst (v := 4) hx hb dL_law_1148 (by decide) ?_
  refine lv_iadd hx hb dL_law_1149 ?_
  refine lv_topi (fun x_2590 ex_2590 => ?_)
  obtain rfl : x_2590 = 4 := ex_2590.trans (by decide)
  refine va_sld hx hb hX hbl hbA hw.2.2 (k_in0 (by decide)) dL_law_1150 ?_
  refine lv_topi (fun x_2591 ex_2591 => ?_)
  obtain rfl : x_2591 = xs 4 := ex_2591
  refine k_V (wr := [(ou, .inl (γ.2.1 1, 1, .inr (.inl (fun _ => 0))))]) 4 gw_1780 gw_1781 gw_1782 gw_15 gw_1783 hd_X12_rests hC hw (c_X12_rests_bo_h γ l z z2 z10 z11 z12 z13 z14 z15 z16 z17 z18 z19 z22 z23 z24 z25 z26 z27 z28 z29 z30 z31 z32 z33 z36 z37 z38 z39 z40 z41 z42 z43 z44 z45 z46 z47 z48 z55 z56 z59 z60 z61 (xs 1) (xs 2) (xs 3) (xs 4) h1 h2) ⟨by decide, by decide⟩ ⟨by decide, by decide⟩ hl.1 rfl 0 rfl rfl rfl (Nat.le_of_ble_eq_true rfl) [0] [1] rfl rfl rfl rfl (by decide) dL_law_1151 (fun r w1 H locs hq hw => ?_)
  obtain ⟨rfl, rfl⟩ := hq
  have hw : kW γ A [(ou, .inl (γ.2.1 1, 1, .inr (.inl (fun _ => 0)))), (z, .inr (11, [.int 1, .int 0, .ref z2, .int 0, .int 0, .int 0, .int 0, .long 0, .int 0, .int 0, .ref z10, .ref z11, .ref z12, .ref z13, .ref z14, .ref z15, .ref z16, .ref z17, .ref z18, .ref z19, .int 0, .int 0, .ref z22, .ref z23, .ref z24, .ref z25, .ref z26, .ref z27, .ref z28, .ref z29, .ref z30, .ref z31, .ref z32, .ref z33, .int 0, .long 0, .ref z36, .ref z37, .ref z38, .ref z39, .ref z40, .ref z41, .ref z42, .ref z43, .ref z44, .ref z45, .ref z46, .ref z47, .ref z48, .int 0, .int 10, .int 0, .int 0, .int 0, .int 0, .ref z55, .ref z56, .int 0, .int 0, .ref z59, .ref z60, .ref z61, .int 0, .long 0]))] s H locs := hw
  refine W.eq (g2 := F0 m 1154 ls [.int 0]) rfl ?_
  refine lv_istore (lv' := [(6, .int 0), (5, .int 1), (4, .int 0), (3, .ref ou), (2, .ref z), (1, .ref x), (0, .ref b)]) hx hb dL_law_1154 hl (by decide) rfl (fun ls hl => ?_)
  refine lv_aload_n hx hb dL_law_1156 rfl (lv_at hl 4 rfl) ?_
  refine k_V (wr := [(ou, .inl (γ.2.1 1, 1, .inr (.inl (fun _ => 0))))]) 0 gw_1385 gw_1386 gw_1387 gw_15 gw_1388 hd_X12_thrown hC hw (c_X12_thrown γ l z z2 z10 z11 z12 z13 z14 z15 z16 z17 z18 z19 z22 z23 z24 z25 z26 z27 z28 z29 z30 z31 z32 z33 z36 z37 z38 z39 z40 z41 z42 z43 z44 z45 z46 z47 z48 z55 z56 z59 z60 z61 0 0 0 0 0 0 0 0 0 0 0 0 0 10 0 0 0 0 0 0 0 0 1) ⟨by decide, by decide⟩ ⟨by decide, by decide⟩ hl.1 rfl 1 rfl rfl rfl (Nat.le_of_ble_eq_true rfl) [1] [0] rfl rfl rfl rfl (by decide) dL_law_1157 (fun r w1 H locs hq hw => ?_)
  obtain ⟨rfl, rfl⟩ := hq
  have hw : kW γ A [(ou, .inl (γ.2.1 1, 1, .inr (.inl (fun _ => 0))))] s H locs := hw
  refine W.eq (g2 := F0 m 1160 ls [.int 1]) rfl ?_
  refine lv_iload hx hb dL_law_1160 (lv_at hl 1 rfl) ?_
  refine lv_icmp_eq (tgt := 1167) hx hb dL_law_1162 (by decide) (fun _ => ?_) (fun h => absurd (by decide) h)
  refine lv_iload hx hb dL_law_1167 (lv_at hl 1 rfl) ?_
  refine lv_if_ne (tgt := 1184) hx hb dL_law_1169 (by decide) (fun _ => ?_) (fun h => absurd h (by decide))
  refine lv_goto (tgt := 1370) hx hb dL_law_1184 (by decide) ?_
  exact law_end hC hr hlocks hX hbl hbA hAs hl9 _ _ (kW.sub hw [] rfl rfl) (by decide) (by decide) _ (lv_sub hl [2, 6] rfl)

set_option maxHeartbeats 4000000 in
set_option maxRecDepth 100000 in
theorem lc_27_lo_l {γ : kΓ} {l : Launch} {p : Program} {e : Env} {s : State} {m : MethodId} {below : List Frame} {meth : Method} {c : Code} {A : Nat → Prop} {b : Nat} {xs : Nat → Int32} (hC : kC γ p s m [Value.ref b].toArray c code 7 RL A) (hr : meth.sig.returnType = ret) (hlocks : meth.locks = false) (hX : va_X b 7 xs s s.heap) (hbl : b < s.heap.size) (hbA : ¬ A b) (hAs : ∀ q, A q → s.heap.size ≤ q) (hl9 : l.stackTraces = false) (x : Nat) (x0 : Nat) (x1 : Nat) (x2 : Nat) (x3 : Nat) (x4 : Nat) (x5 : Nat) (x6 : Nat) (x7 : Nat) (x8 : Nat) (x9 : Nat) (x10 : Nat) (z : Nat) (z2 : Nat) (z10 : Nat) (z11 : Nat) (z12 : Nat) (z13 : Nat) (z14 : Nat) (z15 : Nat) (z16 : Nat) (z17 : Nat) (z18 : Nat) (z19 : Nat) (z22 : Nat) (z23 : Nat) (z24 : Nat) (z25 : Nat) (z26 : Nat) (z27 : Nat) (z28 : Nat) (z29 : Nat) (z30 : Nat) (z31 : Nat) (z32 : Nat) (z33 : Nat) (z36 : Nat) (z37 : Nat) (z38 : Nat) (z39 : Nat) (z40 : Nat) (z41 : Nat) (z42 : Nat) (z43 : Nat) (z44 : Nat) (z45 : Nat) (z46 : Nat) (z47 : Nat) (z48 : Nat) (z55 : Nat) (z56 : Nat) (z59 : Nat) (z60 : Nat) (z61 : Nat) (ou : Nat) (hb0 : ¬ (xs 1) < 0) (hb1 : ¬ 9 < (xs 1)) (h1 : (xs 2) < 0) (H : Heap) (locs : List Loc) (hw : kW γ A [(x, .inr (10, [.ref x0, .ref x1, .ref x2, .ref x3, .ref x4, .ref x5, .ref x6, .ref x7, .ref x8, .ref x9, .ref x10])), (z, .inr (11, [.int 0, .int 0, .ref z2, .int 0, .int 0, .int 0, .int 0, .long 0, .int 0, .int 0, .ref z10, .ref z11, .ref z12, .ref z13, .ref z14, .ref z15, .ref z16, .ref z17, .ref z18, .ref z19, .int 0, .int 0, .ref z22, .ref z23, .ref z24, .ref z25, .ref z26, .ref z27, .ref z28, .ref z29, .ref z30, .ref z31, .ref z32, .ref z33, .int 0, .long 0, .ref z36, .ref z37, .ref z38, .ref z39, .ref z40, .ref z41, .ref z42, .ref z43, .ref z44, .ref z45, .ref z46, .ref z47, .ref z48, .int 0, .int 10, .int 0, .int 0, .int 0, .int 0, .ref z55, .ref z56, .int 0, .int 0, .ref z59, .ref z60, .ref z61, .int 0, .long 0])), (ou, .inl (γ.2.1 1, 1, .inr (.inl (fun _ => 0))))] s H locs) (ls : Array Slot) (hl : lv_has ls 7 [(4, .int 0), (3, .ref ou), (2, .ref z), (1, .ref x), (0, .ref b)]) : W p l e room_1 s m [Value.ref b].toArray below meth c H locs 251 13922 (lw_Z below #[Value.ref b] s) (F0 m 1095 ls []) := by
  have hx := hC.1
  have hb := hC.2.1
  refine lv_aload_n hx hb dL_law_1095 rfl (lv_at hl 3 rfl) ?_
  refine lv_aload_n hx hb dL_law_1096 rfl (lv_at hl 4 rfl) ?_
  refine lv_iload hx hb dL_law_1097 (lv_at hl 0 rfl) ?_
  refine lv_iconst (v := 1) hx hb dL_law_1099 (by decide) ?_
  refine lv_iadd hx hb dL_law_1100 ?_
  refine lv_topi (fun x_2592 ex_2592 => ?_)
  obtain rfl : x_2592 = 1 := ex_2592.trans (by decide)
  refine va_sld hx hb hX hbl hbA hw.2.2 (k_in0 (by decide)) dL_law_1101 ?_
  refine lv_topi (fun x_2593 ex_2593 => ?_)
  obtain rfl : x_2593 = xs 1 := ex_2593
  refine lv_aload_n hx hb dL_law_1102 rfl (lv_at hl 4 rfl) ?_
  refine lv_iload hx hb dL_law_1103 (lv_at hl 0 rfl) ?_
  refine lv_iconst (v := 2) hx hb dL_law_1105 (by decide) ?_
  refine lv_iadd hx hb dL_law_1106 ?_
  refine lv_topi (fun x_2594 ex_2594 => ?_)
  obtain rfl : x_2594 = 2 := ex_2594.trans (by decide)
  refine va_sld hx hb hX hbl hbA hw.2.2 (k_in0 (by decide)) dL_law_1107 ?_
  refine lv_topi (fun x_2595 ex_2595 => ?_)
  obtain rfl : x_2595 = xs 2 := ex_2595
  refine lv_aload_n hx hb dL_law_1108 rfl (lv_at hl 4 rfl) ?_
  refine lv_iload hx hb dL_law_1109 (lv_at hl 0 rfl) ?_
  refine lv_iconst (v := 3) hx hb dL_law_1111 (by decide) ?_
  refine lv_iadd hx hb dL_law_1112 ?_
  refine lv_topi (fun x_2596 ex_2596 => ?_)
  obtain rfl : x_2596 = 3 := ex_2596.trans (by decide)
  refine va_sld hx hb hX hbl hbA hw.2.2 (k_in0 (by decide)) dL_law_1113 ?_
  refine lv_topi (fun x_2597 ex_2597 => ?_)
  obtain rfl : x_2597 = xs 3 := ex_2597
  refine lv_aload_n hx hb dL_law_1114 rfl (lv_at hl 4 rfl) ?_
  refine lv_iload hx hb dL_law_1115 (lv_at hl 0 rfl) ?_
  refine lv_iconst (v := 4) hx hb dL_law_1117 (by decide) ?_
  refine lv_iadd hx hb dL_law_1118 ?_
  refine lv_topi (fun x_2598 ex_2598 => ?_)
  obtain rfl : x_2598 = 4 := ex_2598.trans (by decide)
  refine va_sld hx hb hX hbl hbA hw.2.2 (k_in0 (by decide)) dL_law_1119 ?_
  refine lv_topi (fun x_2599 ex_2599 => ?_)
  obtain rfl : x_2599 = xs 4 := ex_2599
  refine lv_aload_n hx hb dL_law_1120 rfl (lv_at hl 1 rfl) ?_
  refine k_SW (wr := [(z, .inr (11, [.int 0, .int 0, .ref z2, .int 0, .int 0, .int 0, .int 0, .long 0, .int 0, .int 0, .ref z10, .ref z11, .ref z12, .ref z13, .ref z14, .ref z15, .ref z16, .ref z17, .ref z18, .ref z19, .int 0, .int 0, .ref z22, .ref z23, .ref z24, .ref z25, .ref z26, .ref z27, .ref z28, .ref z29, .ref z30, .ref z31, .ref z32, .ref z33, .int 0, .long 0, .ref z36, .ref z37, .ref z38, .ref z39, .ref z40, .ref z41, .ref z42, .ref z43, .ref z44, .ref z45, .ref z46, .ref z47, .ref z48, .int 0, .int 10, .int 0, .int 0, .int 0, .int 0, .ref z55, .ref z56, .int 0, .int 0, .ref z59, .ref z60, .ref z61, .int 0, .long 0]))]) 6 gw_1146 gw_1147 gw_0 gw_1148 hd_L_rests hC hw (c_L_rests_lo_l γ l hl9 x x0 x1 x2 x3 x4 x5 x6 x7 x8 x9 x10 (xs 1) (xs 2) (xs 3) (xs 4) ou (fun _ => 0) hb0 hb1 h1) ⟨by decide, by decide⟩ ⟨by decide, by decide⟩ hl.1 rfl rfl (Nat.le_of_ble_eq_true rfl) [0, 2] [1] rfl rfl rfl rfl (by decide) dL_law_1121 (fun r w1 H locs hq hw => ?_)
  obtain ⟨rfl, rfl⟩ := hq
  have hw : kW γ A [(z, .inr (11, [.int 0, .int 0, .ref z2, .int 0, .int 0, .int 0, .int 0, .long 0, .int 0, .int 0, .ref z10, .ref z11, .ref z12, .ref z13, .ref z14, .ref z15, .ref z16, .ref z17, .ref z18, .ref z19, .int 0, .int 0, .ref z22, .ref z23, .ref z24, .ref z25, .ref z26, .ref z27, .ref z28, .ref z29, .ref z30, .ref z31, .ref z32, .ref z33, .int 0, .long 0, .ref z36, .ref z37, .ref z38, .ref z39, .ref z40, .ref z41, .ref z42, .ref z43, .ref z44, .ref z45, .ref z46, .ref z47, .ref z48, .int 0, .int 10, .int 0, .int 0, .int 0, .int 0, .ref z55, .ref z56, .int 0, .int 0, .ref z59, .ref z60, .ref z61, .int 0, .long 0])), (ou, .inl (γ.2.1 1, 1, .inr (.inl (fun _ => 0))))] s H locs := hw
  refine W.eq (g2 := F0 m 1124 ls [.int 1]) rfl ?_
  refine W.widen (k := 252) (n := 13928) (by decide) (by decide) ?_
  refine lv_istore (lv' := [(5, .int 1), (4, .int 0), (3, .ref ou), (2, .ref z), (1, .ref x), (0, .ref b)]) hx hb dL_law_1124 hl (by decide) rfl (fun ls hl => ?_)
  refine lv_aload_n hx hb dL_law_1126 rfl (lv_at hl 3 rfl) ?_
  refine lv_aload_n hx hb dL_law_1127 rfl (lv_at hl 5 rfl) ?_
  refine lv_iload hx hb dL_law_1128 (lv_at hl 1 rfl) ?_
  refine lv_iconst (v := 1) hx hb dL_law_1130 (by decide) ?_
  refine lv_iadd hx hb dL_law_1131 ?_
  refine lv_topi (fun x_2600 ex_2600 => ?_)
  obtain rfl : x_2600 = 1 := ex_2600.trans (by decide)
  refine va_sld hx hb hX hbl hbA hw.2.2 (k_in0 (by decide)) dL_law_1132 ?_
  refine lv_topi (fun x_2601 ex_2601 => ?_)
  obtain rfl : x_2601 = xs 1 := ex_2601
  refine lv_aload_n hx hb dL_law_1133 rfl (lv_at hl 5 rfl) ?_
  refine lv_iload hx hb dL_law_1134 (lv_at hl 1 rfl) ?_
  refine lv_iconst (v := 2) hx hb dL_law_1136 (by decide) ?_
  refine lv_iadd hx hb dL_law_1137 ?_
  refine lv_topi (fun x_2602 ex_2602 => ?_)
  obtain rfl : x_2602 = 2 := ex_2602.trans (by decide)
  refine va_sld hx hb hX hbl hbA hw.2.2 (k_in0 (by decide)) dL_law_1138 ?_
  refine lv_topi (fun x_2603 ex_2603 => ?_)
  obtain rfl : x_2603 = xs 2 := ex_2603
  refine lv_aload_n hx hb dL_law_1139 rfl (lv_at hl 5 rfl) ?_
  refine lv_iload hx hb dL_law_1140 (lv_at hl 1 rfl) ?_
  refine lv_iconst (v := 3) hx hb dL_law_1142 (by decide) ?_
  refine lv_iadd hx hb dL_law_1143 ?_
  refine lv_topi (fun x_2604 ex_2604 => ?_)
  obtain rfl : x_2604 = 3 := ex_2604.trans (by decide)
  refine va_sld hx hb hX hbl hbA hw.2.2 (k_in0 (by decide)) dL_law_1144 ?_
  refine lv_topi (fun x_2605 ex_2605 => ?_)
  obtain rfl : x_2605 = xs 3 := ex_2605
  refine lv_aload_n hx hb dL_law_1145 rfl (lv_at hl 5 rfl) ?_
  refine lv_iload hx hb dL_law_1146 (lv_at hl 1 rfl) ?_
  refine lv_iconst (v := 4) hx hb dL_law_1148 (by decide) ?_
  refine lv_iadd hx hb dL_law_1149 ?_
  refine lv_topi (fun x_2606 ex_2606 => ?_)
  obtain rfl : x_2606 = 4 := ex_2606.trans (by decide)
  refine va_sld hx hb hX hbl hbA hw.2.2 (k_in0 (by decide)) dL_law_1150 ?_
  refine lv_topi (fun x_2607 ex_2607 => ?_)
  obtain rfl : x_2607 = xs 4 := ex_2607
  refine k_V (wr := [(ou, .inl (γ.2.1 1, 1, .inr (.inl (fun _ => 0))))]) 4 gw_1780 gw_1781 gw_1782 gw_15 gw_1783 hd_X12_rests hC hw (c_X12_rests_lo_l γ l z z2 z10 z11 z12 z13 z14 z15 z16 z17 z18 z19 z22 z23 z24 z25 z26 z27 z28 z29 z30 z31 z32 z33 z36 z37 z38 z39 z40 z41 z42 z43 z44 z45 z46 z47 z48 z55 z56 z59 z60 z61 (xs 1) (xs 2) (xs 3) (xs 4) hb0 hb1 h1) ⟨by decide, by decide⟩ ⟨by decide, by decide⟩ hl.1 rfl 0 rfl rfl rfl (Nat.le_of_ble_eq_true rfl) [0] [1] rfl rfl rfl rfl (by decide) dL_law_1151 (fun r w1 H locs hq hw => ?_)
  obtain ⟨rfl, rfl⟩ := hq
  have hw : kW γ A [(ou, .inl (γ.2.1 1, 1, .inr (.inl (fun _ => 0)))), (z, .inr (11, [.int 1, .int 0, .ref z2, .int 0, .int 0, .int 0, .int 0, .long 0, .int 0, .int 0, .ref z10, .ref z11, .ref z12, .ref z13, .ref z14, .ref z15, .ref z16, .ref z17, .ref z18, .ref z19, .int 0, .int 0, .ref z22, .ref z23, .ref z24, .ref z25, .ref z26, .ref z27, .ref z28, .ref z29, .ref z30, .ref z31, .ref z32, .ref z33, .int 0, .long 0, .ref z36, .ref z37, .ref z38, .ref z39, .ref z40, .ref z41, .ref z42, .ref z43, .ref z44, .ref z45, .ref z46, .ref z47, .ref z48, .int 0, .int 10, .int 0, .int 0, .int 0, .int 0, .ref z55, .ref z56, .int 0, .int 0, .ref z59, .ref z60, .ref z61, .int 0, .long 0]))] s H locs := hw
  refine W.eq (g2 := F0 m 1154 ls [.int 0]) rfl ?_
  refine lv_istore (lv' := [(6, .int 0), (5, .int 1), (4, .int 0), (3, .ref ou), (2, .ref z), (1, .ref x), (0, .ref b)]) hx hb dL_law_1154 hl (by decide) rfl (fun ls hl => ?_)
  refine lv_aload_n hx hb dL_law_1156 rfl (lv_at hl 4 rfl) ?_
  refine k_V (wr := [(ou, .inl (γ.2.1 1, 1, .inr (.inl (fun _ => 0))))]) 0 gw_1385 gw_1386 gw_1387 gw_15 gw_1388 hd_X12_thrown hC hw (c_X12_thrown γ l z z2 z10 z11 z12 z13 z14 z15 z16 z17 z18 z19 z22 z23 z24 z25 z26 z27 z28 z29 z30 z31 z32 z33 z36 z37 z38 z39 z40 z41 z42 z43 z44 z45 z46 z47 z48 z55 z56 z59 z60 z61 0 0 0 0 0 0 0 0 0 0 0 0 0 10 0 0 0 0 0 0 0 0 1) ⟨by decide, by decide⟩ ⟨by decide, by decide⟩ hl.1 rfl 1 rfl rfl rfl (Nat.le_of_ble_eq_true rfl) [1] [0] rfl rfl rfl rfl (by decide) dL_law_1157 (fun r w1 H locs hq hw => ?_)
  obtain ⟨rfl, rfl⟩ := hq
  have hw : kW γ A [(ou, .inl (γ.2.1 1, 1, .inr (.inl (fun _ => 0))))] s H locs := hw
  refine W.eq (g2 := F0 m 1160 ls [.int 1]) rfl ?_
  refine lv_iload hx hb dL_law_1160 (lv_at hl 1 rfl) ?_
  refine lv_icmp_eq (tgt := 1167) hx hb dL_law_1162 (by decide) (fun _ => ?_) (fun h => absurd (by decide) h)
  refine lv_iload hx hb dL_law_1167 (lv_at hl 1 rfl) ?_
  refine lv_if_ne (tgt := 1184) hx hb dL_law_1169 (by decide) (fun _ => ?_) (fun h => absurd h (by decide))
  refine lv_goto (tgt := 1370) hx hb dL_law_1184 (by decide) ?_
  exact law_end hC hr hlocks hX hbl hbA hAs hl9 _ _ (kW.sub hw [] rfl rfl) (by decide) (by decide) _ (lv_sub hl [2, 6] rfl)

set_option maxHeartbeats 4000000 in
set_option maxRecDepth 100000 in
theorem lc_27_lo_h {γ : kΓ} {l : Launch} {p : Program} {e : Env} {s : State} {m : MethodId} {below : List Frame} {meth : Method} {c : Code} {A : Nat → Prop} {b : Nat} {xs : Nat → Int32} (hC : kC γ p s m [Value.ref b].toArray c code 7 RL A) (hr : meth.sig.returnType = ret) (hlocks : meth.locks = false) (hX : va_X b 7 xs s s.heap) (hbl : b < s.heap.size) (hbA : ¬ A b) (hAs : ∀ q, A q → s.heap.size ≤ q) (hl9 : l.stackTraces = false) (x : Nat) (x0 : Nat) (x1 : Nat) (x2 : Nat) (x3 : Nat) (x4 : Nat) (x5 : Nat) (x6 : Nat) (x7 : Nat) (x8 : Nat) (x9 : Nat) (x10 : Nat) (z : Nat) (z2 : Nat) (z10 : Nat) (z11 : Nat) (z12 : Nat) (z13 : Nat) (z14 : Nat) (z15 : Nat) (z16 : Nat) (z17 : Nat) (z18 : Nat) (z19 : Nat) (z22 : Nat) (z23 : Nat) (z24 : Nat) (z25 : Nat) (z26 : Nat) (z27 : Nat) (z28 : Nat) (z29 : Nat) (z30 : Nat) (z31 : Nat) (z32 : Nat) (z33 : Nat) (z36 : Nat) (z37 : Nat) (z38 : Nat) (z39 : Nat) (z40 : Nat) (z41 : Nat) (z42 : Nat) (z43 : Nat) (z44 : Nat) (z45 : Nat) (z46 : Nat) (z47 : Nat) (z48 : Nat) (z55 : Nat) (z56 : Nat) (z59 : Nat) (z60 : Nat) (z61 : Nat) (ou : Nat) (hb0 : ¬ (xs 1) < 0) (hb1 : ¬ 9 < (xs 1)) (h1 : ¬ (xs 2) < 0) (h2 : 9 < (xs 2)) (H : Heap) (locs : List Loc) (hw : kW γ A [(x, .inr (10, [.ref x0, .ref x1, .ref x2, .ref x3, .ref x4, .ref x5, .ref x6, .ref x7, .ref x8, .ref x9, .ref x10])), (z, .inr (11, [.int 0, .int 0, .ref z2, .int 0, .int 0, .int 0, .int 0, .long 0, .int 0, .int 0, .ref z10, .ref z11, .ref z12, .ref z13, .ref z14, .ref z15, .ref z16, .ref z17, .ref z18, .ref z19, .int 0, .int 0, .ref z22, .ref z23, .ref z24, .ref z25, .ref z26, .ref z27, .ref z28, .ref z29, .ref z30, .ref z31, .ref z32, .ref z33, .int 0, .long 0, .ref z36, .ref z37, .ref z38, .ref z39, .ref z40, .ref z41, .ref z42, .ref z43, .ref z44, .ref z45, .ref z46, .ref z47, .ref z48, .int 0, .int 10, .int 0, .int 0, .int 0, .int 0, .ref z55, .ref z56, .int 0, .int 0, .ref z59, .ref z60, .ref z61, .int 0, .long 0])), (ou, .inl (γ.2.1 1, 1, .inr (.inl (fun _ => 0))))] s H locs) (ls : Array Slot) (hl : lv_has ls 7 [(4, .int 0), (3, .ref ou), (2, .ref z), (1, .ref x), (0, .ref b)]) : W p l e room_1 s m [Value.ref b].toArray below meth c H locs 251 13922 (lw_Z below #[Value.ref b] s) (F0 m 1095 ls []) := by
  have hx := hC.1
  have hb := hC.2.1
  refine lv_aload_n hx hb dL_law_1095 rfl (lv_at hl 3 rfl) ?_
  refine lv_aload_n hx hb dL_law_1096 rfl (lv_at hl 4 rfl) ?_
  refine lv_iload hx hb dL_law_1097 (lv_at hl 0 rfl) ?_
  refine lv_iconst (v := 1) hx hb dL_law_1099 (by decide) ?_
  refine lv_iadd hx hb dL_law_1100 ?_
  refine lv_topi (fun x_2608 ex_2608 => ?_)
  obtain rfl : x_2608 = 1 := ex_2608.trans (by decide)
  refine va_sld hx hb hX hbl hbA hw.2.2 (k_in0 (by decide)) dL_law_1101 ?_
  refine lv_topi (fun x_2609 ex_2609 => ?_)
  obtain rfl : x_2609 = xs 1 := ex_2609
  refine lv_aload_n hx hb dL_law_1102 rfl (lv_at hl 4 rfl) ?_
  refine lv_iload hx hb dL_law_1103 (lv_at hl 0 rfl) ?_
  refine lv_iconst (v := 2) hx hb dL_law_1105 (by decide) ?_
  refine lv_iadd hx hb dL_law_1106 ?_
  refine lv_topi (fun x_2610 ex_2610 => ?_)
  obtain rfl : x_2610 = 2 := ex_2610.trans (by decide)
  refine va_sld hx hb hX hbl hbA hw.2.2 (k_in0 (by decide)) dL_law_1107 ?_
  refine lv_topi (fun x_2611 ex_2611 => ?_)
  obtain rfl : x_2611 = xs 2 := ex_2611
  refine lv_aload_n hx hb dL_law_1108 rfl (lv_at hl 4 rfl) ?_
  refine lv_iload hx hb dL_law_1109 (lv_at hl 0 rfl) ?_
  refine lv_iconst (v := 3) hx hb dL_law_1111 (by decide) ?_
  refine lv_iadd hx hb dL_law_1112 ?_
  refine lv_topi (fun x_2612 ex_2612 => ?_)
  obtain rfl : x_2612 = 3 := ex_2612.trans (by decide)
  refine va_sld hx hb hX hbl hbA hw.2.2 (k_in0 (by decide)) dL_law_1113 ?_
  refine lv_topi (fun x_2613 ex_2613 => ?_)
  obtain rfl : x_2613 = xs 3 := ex_2613
  refine lv_aload_n hx hb dL_law_1114 rfl (lv_at hl 4 rfl) ?_
  refine lv_iload hx hb dL_law_1115 (lv_at hl 0 rfl) ?_
  refine lv_iconst (v := 4) hx hb dL_law_1117 (by decide) ?_
  refine lv_iadd hx hb dL_law_1118 ?_
  refine lv_topi (fun x_2614 ex_2614 => ?_)
  obtain rfl : x_2614 = 4 := ex_2614.trans (by decide)
  refine va_sld hx hb hX hbl hbA hw.2.2 (k_in0 (by decide)) dL_law_1119 ?_
  refine lv_topi (fun x_2615 ex_2615 => ?_)
  obtain rfl : x_2615 = xs 4 := ex_2615
  refine lv_aload_n hx hb dL_law_1120 rfl (lv_at hl 1 rfl) ?_
  refine k_SW (wr := [(z, .inr (11, [.int 0, .int 0, .ref z2, .int 0, .int 0, .int 0, .int 0, .long 0, .int 0, .int 0, .ref z10, .ref z11, .ref z12, .ref z13, .ref z14, .ref z15, .ref z16, .ref z17, .ref z18, .ref z19, .int 0, .int 0, .ref z22, .ref z23, .ref z24, .ref z25, .ref z26, .ref z27, .ref z28, .ref z29, .ref z30, .ref z31, .ref z32, .ref z33, .int 0, .long 0, .ref z36, .ref z37, .ref z38, .ref z39, .ref z40, .ref z41, .ref z42, .ref z43, .ref z44, .ref z45, .ref z46, .ref z47, .ref z48, .int 0, .int 10, .int 0, .int 0, .int 0, .int 0, .ref z55, .ref z56, .int 0, .int 0, .ref z59, .ref z60, .ref z61, .int 0, .long 0]))]) 6 gw_1146 gw_1147 gw_0 gw_1148 hd_L_rests hC hw (c_L_rests_lo_h γ l hl9 x x0 x1 x2 x3 x4 x5 x6 x7 x8 x9 x10 (xs 1) (xs 2) (xs 3) (xs 4) ou (fun _ => 0) hb0 hb1 h1 h2) ⟨by decide, by decide⟩ ⟨by decide, by decide⟩ hl.1 rfl rfl (Nat.le_of_ble_eq_true rfl) [0, 2] [1] rfl rfl rfl rfl (by decide) dL_law_1121 (fun r w1 H locs hq hw => ?_)
  obtain ⟨rfl, rfl⟩ := hq
  have hw : kW γ A [(z, .inr (11, [.int 0, .int 0, .ref z2, .int 0, .int 0, .int 0, .int 0, .long 0, .int 0, .int 0, .ref z10, .ref z11, .ref z12, .ref z13, .ref z14, .ref z15, .ref z16, .ref z17, .ref z18, .ref z19, .int 0, .int 0, .ref z22, .ref z23, .ref z24, .ref z25, .ref z26, .ref z27, .ref z28, .ref z29, .ref z30, .ref z31, .ref z32, .ref z33, .int 0, .long 0, .ref z36, .ref z37, .ref z38, .ref z39, .ref z40, .ref z41, .ref z42, .ref z43, .ref z44, .ref z45, .ref z46, .ref z47, .ref z48, .int 0, .int 10, .int 0, .int 0, .int 0, .int 0, .ref z55, .ref z56, .int 0, .int 0, .ref z59, .ref z60, .ref z61, .int 0, .long 0])), (ou, .inl (γ.2.1 1, 1, .inr (.inl (fun _ => 0))))] s H locs := hw
  refine W.eq (g2 := F0 m 1124 ls [.int 1]) rfl ?_
  refine W.widen (k := 252) (n := 13928) (by decide) (by decide) ?_
  refine lv_istore (lv' := [(5, .int 1), (4, .int 0), (3, .ref ou), (2, .ref z), (1, .ref x), (0, .ref b)]) hx hb dL_law_1124 hl (by decide) rfl (fun ls hl => ?_)
  refine lv_aload_n hx hb dL_law_1126 rfl (lv_at hl 3 rfl) ?_
  refine lv_aload_n hx hb dL_law_1127 rfl (lv_at hl 5 rfl) ?_
  refine lv_iload hx hb dL_law_1128 (lv_at hl 1 rfl) ?_
  refine lv_iconst (v := 1) hx hb dL_law_1130 (by decide) ?_
  refine lv_iadd hx hb dL_law_1131 ?_
  refine lv_topi (fun x_2616 ex_2616 => ?_)
  obtain rfl : x_2616 = 1 := ex_2616.trans (by decide)
  refine va_sld hx hb hX hbl hbA hw.2.2 (k_in0 (by decide)) dL_law_1132 ?_
  refine lv_topi (fun x_2617 ex_2617 => ?_)
  obtain rfl : x_2617 = xs 1 := ex_2617
  refine lv_aload_n hx hb dL_law_1133 rfl (lv_at hl 5 rfl) ?_
  refine lv_iload hx hb dL_law_1134 (lv_at hl 1 rfl) ?_
  refine lv_iconst (v := 2) hx hb dL_law_1136 (by decide) ?_
  refine lv_iadd hx hb dL_law_1137 ?_
  refine lv_topi (fun x_2618 ex_2618 => ?_)
  obtain rfl : x_2618 = 2 := ex_2618.trans (by decide)
  refine va_sld hx hb hX hbl hbA hw.2.2 (k_in0 (by decide)) dL_law_1138 ?_
  refine lv_topi (fun x_2619 ex_2619 => ?_)
  obtain rfl : x_2619 = xs 2 := ex_2619
  refine lv_aload_n hx hb dL_law_1139 rfl (lv_at hl 5 rfl) ?_
  refine lv_iload hx hb dL_law_1140 (lv_at hl 1 rfl) ?_
  refine lv_iconst (v := 3) hx hb dL_law_1142 (by decide) ?_
  refine lv_iadd hx hb dL_law_1143 ?_
  refine lv_topi (fun x_2620 ex_2620 => ?_)
  obtain rfl : x_2620 = 3 := ex_2620.trans (by decide)
  refine va_sld hx hb hX hbl hbA hw.2.2 (k_in0 (by decide)) dL_law_1144 ?_
  refine lv_topi (fun x_2621 ex_2621 => ?_)
  obtain rfl : x_2621 = xs 3 := ex_2621
  refine lv_aload_n hx hb dL_law_1145 rfl (lv_at hl 5 rfl) ?_
  refine lv_iload hx hb dL_law_1146 (lv_at hl 1 rfl) ?_
  refine lv_iconst (v := 4) hx hb dL_law_1148 (by decide) ?_
  refine lv_iadd hx hb dL_law_1149 ?_
  refine lv_topi (fun x_2622 ex_2622 => ?_)
  obtain rfl : x_2622 = 4 := ex_2622.trans (by decide)
  refine va_sld hx hb hX hbl hbA hw.2.2 (k_in0 (by decide)) dL_law_1150 ?_
  refine lv_topi (fun x_2623 ex_2623 => ?_)
  obtain rfl : x_2623 = xs 4 := ex_2623
  refine k_V (wr := [(ou, .inl (γ.2.1 1, 1, .inr (.inl (fun _ => 0))))]) 4 gw_1780 gw_1781 gw_1782 gw_15 gw_1783 hd_X12_rests hC hw (c_X12_rests_lo_h γ l z z2 z10 z11 z12 z13 z14 z15 z16 z17 z18 z19 z22 z23 z24 z25 z26 z27 z28 z29 z30 z31 z32 z33 z36 z37 z38 z39 z40 z41 z42 z43 z44 z45 z46 z47 z48 z55 z56 z59 z60 z61 (xs 1) (xs 2) (xs 3) (xs 4) hb0 hb1 h1 h2) ⟨by decide, by decide⟩ ⟨by decide, by decide⟩ hl.1 rfl 0 rfl rfl rfl (Nat.le_of_ble_eq_true rfl) [0] [1] rfl rfl rfl rfl (by decide) dL_law_1151 (fun r w1 H locs hq hw => ?_)
  obtain ⟨rfl, rfl⟩ := hq
  have hw : kW γ A [(ou, .inl (γ.2.1 1, 1, .inr (.inl (fun _ => 0)))), (z, .inr (11, [.int 1, .int 0, .ref z2, .int 0, .int 0, .int 0, .int 0, .long 0, .int 0, .int 0, .ref z10, .ref z11, .ref z12, .ref z13, .ref z14, .ref z15, .ref z16, .ref z17, .ref z18, .ref z19, .int 0, .int 0, .ref z22, .ref z23, .ref z24, .ref z25, .ref z26, .ref z27, .ref z28, .ref z29, .ref z30, .ref z31, .ref z32, .ref z33, .int 0, .long 0, .ref z36, .ref z37, .ref z38, .ref z39, .ref z40, .ref z41, .ref z42, .ref z43, .ref z44, .ref z45, .ref z46, .ref z47, .ref z48, .int 0, .int 10, .int 0, .int 0, .int 0, .int 0, .ref z55, .ref z56, .int 0, .int 0, .ref z59, .ref z60, .ref z61, .int 0, .long 0]))] s H locs := hw
  refine W.eq (g2 := F0 m 1154 ls [.int 0]) rfl ?_
  refine lv_istore (lv' := [(6, .int 0), (5, .int 1), (4, .int 0), (3, .ref ou), (2, .ref z), (1, .ref x), (0, .ref b)]) hx hb dL_law_1154 hl (by decide) rfl (fun ls hl => ?_)
  refine lv_aload_n hx hb dL_law_1156 rfl (lv_at hl 4 rfl) ?_
  refine k_V (wr := [(ou, .inl (γ.2.1 1, 1, .inr (.inl (fun _ => 0))))]) 0 gw_1385 gw_1386 gw_1387 gw_15 gw_1388 hd_X12_thrown hC hw (c_X12_thrown γ l z z2 z10 z11 z12 z13 z14 z15 z16 z17 z18 z19 z22 z23 z24 z25 z26 z27 z28 z29 z30 z31 z32 z33 z36 z37 z38 z39 z40 z41 z42 z43 z44 z45 z46 z47 z48 z55 z56 z59 z60 z61 0 0 0 0 0 0 0 0 0 0 0 0 0 10 0 0 0 0 0 0 0 0 1) ⟨by decide, by decide⟩ ⟨by decide, by decide⟩ hl.1 rfl 1 rfl rfl rfl (Nat.le_of_ble_eq_true rfl) [1] [0] rfl rfl rfl rfl (by decide) dL_law_1157 (fun r w1 H locs hq hw => ?_)
  obtain ⟨rfl, rfl⟩ := hq
  have hw : kW γ A [(ou, .inl (γ.2.1 1, 1, .inr (.inl (fun _ => 0))))] s H locs := hw
  refine W.eq (g2 := F0 m 1160 ls [.int 1]) rfl ?_
  refine lv_iload hx hb dL_law_1160 (lv_at hl 1 rfl) ?_
  refine lv_icmp_eq (tgt := 1167) hx hb dL_law_1162 (by decide) (fun _ => ?_) (fun h => absurd (by decide) h)
  refine lv_iload hx hb dL_law_1167 (lv_at hl 1 rfl) ?_
  refine lv_if_ne (tgt := 1184) hx hb dL_law_1169 (by decide) (fun _ => ?_) (fun h => absurd h (by decide))
  refine lv_goto (tgt := 1370) hx hb dL_law_1184 (by decide) ?_
  exact law_end hC hr hlocks hX hbl hbA hAs hl9 _ _ (kW.sub hw [] rfl rfl) (by decide) (by decide) _ (lv_sub hl [2, 6] rfl)

set_option maxHeartbeats 4000000 in
set_option maxRecDepth 100000 in
theorem lc_27_ge_l {γ : kΓ} {l : Launch} {p : Program} {e : Env} {s : State} {m : MethodId} {below : List Frame} {meth : Method} {c : Code} {A : Nat → Prop} {b : Nat} {xs : Nat → Int32} (hC : kC γ p s m [Value.ref b].toArray c code 7 RL A) (hr : meth.sig.returnType = ret) (hlocks : meth.locks = false) (hX : va_X b 7 xs s s.heap) (hbl : b < s.heap.size) (hbA : ¬ A b) (hAs : ∀ q, A q → s.heap.size ≤ q) (hl9 : l.stackTraces = false) (x : Nat) (x0 : Nat) (x1 : Nat) (x2 : Nat) (x3 : Nat) (x4 : Nat) (x5 : Nat) (x6 : Nat) (x7 : Nat) (x8 : Nat) (x9 : Nat) (x10 : Nat) (z : Nat) (z2 : Nat) (z10 : Nat) (z11 : Nat) (z12 : Nat) (z13 : Nat) (z14 : Nat) (z15 : Nat) (z16 : Nat) (z17 : Nat) (z18 : Nat) (z19 : Nat) (z22 : Nat) (z23 : Nat) (z24 : Nat) (z25 : Nat) (z26 : Nat) (z27 : Nat) (z28 : Nat) (z29 : Nat) (z30 : Nat) (z31 : Nat) (z32 : Nat) (z33 : Nat) (z36 : Nat) (z37 : Nat) (z38 : Nat) (z39 : Nat) (z40 : Nat) (z41 : Nat) (z42 : Nat) (z43 : Nat) (z44 : Nat) (z45 : Nat) (z46 : Nat) (z47 : Nat) (z48 : Nat) (z55 : Nat) (z56 : Nat) (z59 : Nat) (z60 : Nat) (z61 : Nat) (ou : Nat) (hb0 : ¬ (xs 1) < 0) (hb1 : ¬ 9 < (xs 1)) (hl0 : ¬ (xs 2) < 0) (hl1 : ¬ 9 < (xs 2)) (h1 : (xs 3) < 0) (H : Heap) (locs : List Loc) (hw : kW γ A [(x, .inr (10, [.ref x0, .ref x1, .ref x2, .ref x3, .ref x4, .ref x5, .ref x6, .ref x7, .ref x8, .ref x9, .ref x10])), (z, .inr (11, [.int 0, .int 0, .ref z2, .int 0, .int 0, .int 0, .int 0, .long 0, .int 0, .int 0, .ref z10, .ref z11, .ref z12, .ref z13, .ref z14, .ref z15, .ref z16, .ref z17, .ref z18, .ref z19, .int 0, .int 0, .ref z22, .ref z23, .ref z24, .ref z25, .ref z26, .ref z27, .ref z28, .ref z29, .ref z30, .ref z31, .ref z32, .ref z33, .int 0, .long 0, .ref z36, .ref z37, .ref z38, .ref z39, .ref z40, .ref z41, .ref z42, .ref z43, .ref z44, .ref z45, .ref z46, .ref z47, .ref z48, .int 0, .int 10, .int 0, .int 0, .int 0, .int 0, .ref z55, .ref z56, .int 0, .int 0, .ref z59, .ref z60, .ref z61, .int 0, .long 0])), (ou, .inl (γ.2.1 1, 1, .inr (.inl (fun _ => 0))))] s H locs) (ls : Array Slot) (hl : lv_has ls 7 [(4, .int 0), (3, .ref ou), (2, .ref z), (1, .ref x), (0, .ref b)]) : W p l e room_1 s m [Value.ref b].toArray below meth c H locs 251 13922 (lw_Z below #[Value.ref b] s) (F0 m 1095 ls []) := by
  have hx := hC.1
  have hb := hC.2.1
  refine lv_aload_n hx hb dL_law_1095 rfl (lv_at hl 3 rfl) ?_
  refine lv_aload_n hx hb dL_law_1096 rfl (lv_at hl 4 rfl) ?_
  refine lv_iload hx hb dL_law_1097 (lv_at hl 0 rfl) ?_
  refine lv_iconst (v := 1) hx hb dL_law_1099 (by decide) ?_
  refine lv_iadd hx hb dL_law_1100 ?_
  refine lv_topi (fun x_2624 ex_2624 => ?_)
  obtain rfl : x_2624 = 1 := ex_2624.trans (by decide)
  refine va_sld hx hb hX hbl hbA hw.2.2 (k_in0 (by decide)) dL_law_1101 ?_
  refine lv_topi (fun x_2625 ex_2625 => ?_)
  obtain rfl : x_2625 = xs 1 := ex_2625
  refine lv_aload_n hx hb dL_law_1102 rfl (lv_at hl 4 rfl) ?_
  refine lv_iload hx hb dL_law_1103 (lv_at hl 0 rfl) ?_
  refine lv_iconst (v := 2) hx hb dL_law_1105 (by decide) ?_
  refine lv_iadd hx hb dL_law_1106 ?_
  refine lv_topi (fun x_2626 ex_2626 => ?_)
  obtain rfl : x_2626 = 2 := ex_2626.trans (by decide)
  refine va_sld hx hb hX hbl hbA hw.2.2 (k_in0 (by decide)) dL_law_1107 ?_
  refine lv_topi (fun x_2627 ex_2627 => ?_)
  obtain rfl : x_2627 = xs 2 := ex_2627
  refine lv_aload_n hx hb dL_law_1108 rfl (lv_at hl 4 rfl) ?_
  refine lv_iload hx hb dL_law_1109 (lv_at hl 0 rfl) ?_
  refine lv_iconst (v := 3) hx hb dL_law_1111 (by decide) ?_
  refine lv_iadd hx hb dL_law_1112 ?_
  refine lv_topi (fun x_2628 ex_2628 => ?_)
  obtain rfl : x_2628 = 3 := ex_2628.trans (by decide)
  refine va_sld hx hb hX hbl hbA hw.2.2 (k_in0 (by decide)) dL_law_1113 ?_
  refine lv_topi (fun x_2629 ex_2629 => ?_)
  obtain rfl : x_2629 = xs 3 := ex_2629
  refine lv_aload_n hx hb dL_law_1114 rfl (lv_at hl 4 rfl) ?_
  refine lv_iload hx hb dL_law_1115 (lv_at hl 0 rfl) ?_
  refine lv_iconst (v := 4) hx hb dL_law_1117 (by decide) ?_
  refine lv_iadd hx hb dL_law_1118 ?_
  refine lv_topi (fun x_2630 ex_2630 => ?_)
  obtain rfl : x_2630 = 4 := ex_2630.trans (by decide)
  refine va_sld hx hb hX hbl hbA hw.2.2 (k_in0 (by decide)) dL_law_1119 ?_
  refine lv_topi (fun x_2631 ex_2631 => ?_)
  obtain rfl : x_2631 = xs 4 := ex_2631
  refine lv_aload_n hx hb dL_law_1120 rfl (lv_at hl 1 rfl) ?_
  refine k_SW (wr := [(z, .inr (11, [.int 0, .int 0, .ref z2, .int 0, .int 0, .int 0, .int 0, .long 0, .int 0, .int 0, .ref z10, .ref z11, .ref z12, .ref z13, .ref z14, .ref z15, .ref z16, .ref z17, .ref z18, .ref z19, .int 0, .int 0, .ref z22, .ref z23, .ref z24, .ref z25, .ref z26, .ref z27, .ref z28, .ref z29, .ref z30, .ref z31, .ref z32, .ref z33, .int 0, .long 0, .ref z36, .ref z37, .ref z38, .ref z39, .ref z40, .ref z41, .ref z42, .ref z43, .ref z44, .ref z45, .ref z46, .ref z47, .ref z48, .int 0, .int 10, .int 0, .int 0, .int 0, .int 0, .ref z55, .ref z56, .int 0, .int 0, .ref z59, .ref z60, .ref z61, .int 0, .long 0]))]) 6 gw_1146 gw_1147 gw_0 gw_1148 hd_L_rests hC hw (c_L_rests_ge_l γ l hl9 x x0 x1 x2 x3 x4 x5 x6 x7 x8 x9 x10 (xs 1) (xs 2) (xs 3) (xs 4) ou (fun _ => 0) hb0 hb1 hl0 hl1 h1) ⟨by decide, by decide⟩ ⟨by decide, by decide⟩ hl.1 rfl rfl (Nat.le_of_ble_eq_true rfl) [0, 2] [1] rfl rfl rfl rfl (by decide) dL_law_1121 (fun r w1 H locs hq hw => ?_)
  obtain ⟨rfl, rfl⟩ := hq
  have hw : kW γ A [(z, .inr (11, [.int 0, .int 0, .ref z2, .int 0, .int 0, .int 0, .int 0, .long 0, .int 0, .int 0, .ref z10, .ref z11, .ref z12, .ref z13, .ref z14, .ref z15, .ref z16, .ref z17, .ref z18, .ref z19, .int 0, .int 0, .ref z22, .ref z23, .ref z24, .ref z25, .ref z26, .ref z27, .ref z28, .ref z29, .ref z30, .ref z31, .ref z32, .ref z33, .int 0, .long 0, .ref z36, .ref z37, .ref z38, .ref z39, .ref z40, .ref z41, .ref z42, .ref z43, .ref z44, .ref z45, .ref z46, .ref z47, .ref z48, .int 0, .int 10, .int 0, .int 0, .int 0, .int 0, .ref z55, .ref z56, .int 0, .int 0, .ref z59, .ref z60, .ref z61, .int 0, .long 0])), (ou, .inl (γ.2.1 1, 1, .inr (.inl (fun _ => 0))))] s H locs := hw
  refine W.eq (g2 := F0 m 1124 ls [.int 1]) rfl ?_
  refine W.widen (k := 252) (n := 13928) (by decide) (by decide) ?_
  refine lv_istore (lv' := [(5, .int 1), (4, .int 0), (3, .ref ou), (2, .ref z), (1, .ref x), (0, .ref b)]) hx hb dL_law_1124 hl (by decide) rfl (fun ls hl => ?_)
  refine lv_aload_n hx hb dL_law_1126 rfl (lv_at hl 3 rfl) ?_
  refine lv_aload_n hx hb dL_law_1127 rfl (lv_at hl 5 rfl) ?_
  refine lv_iload hx hb dL_law_1128 (lv_at hl 1 rfl) ?_
  refine lv_iconst (v := 1) hx hb dL_law_1130 (by decide) ?_
  refine lv_iadd hx hb dL_law_1131 ?_
  refine lv_topi (fun x_2632 ex_2632 => ?_)
  obtain rfl : x_2632 = 1 := ex_2632.trans (by decide)
  refine va_sld hx hb hX hbl hbA hw.2.2 (k_in0 (by decide)) dL_law_1132 ?_
  refine lv_topi (fun x_2633 ex_2633 => ?_)
  obtain rfl : x_2633 = xs 1 := ex_2633
  refine lv_aload_n hx hb dL_law_1133 rfl (lv_at hl 5 rfl) ?_
  refine lv_iload hx hb dL_law_1134 (lv_at hl 1 rfl) ?_
  refine lv_iconst (v := 2) hx hb dL_law_1136 (by decide) ?_
  refine lv_iadd hx hb dL_law_1137 ?_
  refine lv_topi (fun x_2634 ex_2634 => ?_)
  obtain rfl : x_2634 = 2 := ex_2634.trans (by decide)
  refine va_sld hx hb hX hbl hbA hw.2.2 (k_in0 (by decide)) dL_law_1138 ?_
  refine lv_topi (fun x_2635 ex_2635 => ?_)
  obtain rfl : x_2635 = xs 2 := ex_2635
  refine lv_aload_n hx hb dL_law_1139 rfl (lv_at hl 5 rfl) ?_
  refine lv_iload hx hb dL_law_1140 (lv_at hl 1 rfl) ?_
  refine lv_iconst (v := 3) hx hb dL_law_1142 (by decide) ?_
  refine lv_iadd hx hb dL_law_1143 ?_
  refine lv_topi (fun x_2636 ex_2636 => ?_)
  obtain rfl : x_2636 = 3 := ex_2636.trans (by decide)
  refine va_sld hx hb hX hbl hbA hw.2.2 (k_in0 (by decide)) dL_law_1144 ?_
  refine lv_topi (fun x_2637 ex_2637 => ?_)
  obtain rfl : x_2637 = xs 3 := ex_2637
  refine lv_aload_n hx hb dL_law_1145 rfl (lv_at hl 5 rfl) ?_
  refine lv_iload hx hb dL_law_1146 (lv_at hl 1 rfl) ?_
  refine lv_iconst (v := 4) hx hb dL_law_1148 (by decide) ?_
  refine lv_iadd hx hb dL_law_1149 ?_
  refine lv_topi (fun x_2638 ex_2638 => ?_)
  obtain rfl : x_2638 = 4 := ex_2638.trans (by decide)
  refine va_sld hx hb hX hbl hbA hw.2.2 (k_in0 (by decide)) dL_law_1150 ?_
  refine lv_topi (fun x_2639 ex_2639 => ?_)
  obtain rfl : x_2639 = xs 4 := ex_2639
  refine k_V (wr := [(ou, .inl (γ.2.1 1, 1, .inr (.inl (fun _ => 0))))]) 4 gw_1780 gw_1781 gw_1782 gw_15 gw_1783 hd_X12_rests hC hw (c_X12_rests_ge_l γ l z z2 z10 z11 z12 z13 z14 z15 z16 z17 z18 z19 z22 z23 z24 z25 z26 z27 z28 z29 z30 z31 z32 z33 z36 z37 z38 z39 z40 z41 z42 z43 z44 z45 z46 z47 z48 z55 z56 z59 z60 z61 (xs 1) (xs 2) (xs 3) (xs 4) hb0 hb1 hl0 hl1 h1) ⟨by decide, by decide⟩ ⟨by decide, by decide⟩ hl.1 rfl 0 rfl rfl rfl (Nat.le_of_ble_eq_true rfl) [0] [1] rfl rfl rfl rfl (by decide) dL_law_1151 (fun r w1 H locs hq hw => ?_)
  obtain ⟨rfl, rfl⟩ := hq
  have hw : kW γ A [(ou, .inl (γ.2.1 1, 1, .inr (.inl (fun _ => 0)))), (z, .inr (11, [.int 1, .int 0, .ref z2, .int 0, .int 0, .int 0, .int 0, .long 0, .int 0, .int 0, .ref z10, .ref z11, .ref z12, .ref z13, .ref z14, .ref z15, .ref z16, .ref z17, .ref z18, .ref z19, .int 0, .int 0, .ref z22, .ref z23, .ref z24, .ref z25, .ref z26, .ref z27, .ref z28, .ref z29, .ref z30, .ref z31, .ref z32, .ref z33, .int 0, .long 0, .ref z36, .ref z37, .ref z38, .ref z39, .ref z40, .ref z41, .ref z42, .ref z43, .ref z44, .ref z45, .ref z46, .ref z47, .ref z48, .int 0, .int 10, .int 0, .int 0, .int 0, .int 0, .ref z55, .ref z56, .int 0, .int 0, .ref z59, .ref z60, .ref z61, .int 0, .long 0]))] s H locs := hw
  refine W.eq (g2 := F0 m 1154 ls [.int 0]) rfl ?_
  refine lv_istore (lv' := [(6, .int 0), (5, .int 1), (4, .int 0), (3, .ref ou), (2, .ref z), (1, .ref x), (0, .ref b)]) hx hb dL_law_1154 hl (by decide) rfl (fun ls hl => ?_)
  refine lv_aload_n hx hb dL_law_1156 rfl (lv_at hl 4 rfl) ?_
  refine k_V (wr := [(ou, .inl (γ.2.1 1, 1, .inr (.inl (fun _ => 0))))]) 0 gw_1385 gw_1386 gw_1387 gw_15 gw_1388 hd_X12_thrown hC hw (c_X12_thrown γ l z z2 z10 z11 z12 z13 z14 z15 z16 z17 z18 z19 z22 z23 z24 z25 z26 z27 z28 z29 z30 z31 z32 z33 z36 z37 z38 z39 z40 z41 z42 z43 z44 z45 z46 z47 z48 z55 z56 z59 z60 z61 0 0 0 0 0 0 0 0 0 0 0 0 0 10 0 0 0 0 0 0 0 0 1) ⟨by decide, by decide⟩ ⟨by decide, by decide⟩ hl.1 rfl 1 rfl rfl rfl (Nat.le_of_ble_eq_true rfl) [1] [0] rfl rfl rfl rfl (by decide) dL_law_1157 (fun r w1 H locs hq hw => ?_)
  obtain ⟨rfl, rfl⟩ := hq
  have hw : kW γ A [(ou, .inl (γ.2.1 1, 1, .inr (.inl (fun _ => 0))))] s H locs := hw
  refine W.eq (g2 := F0 m 1160 ls [.int 1]) rfl ?_
  refine lv_iload hx hb dL_law_1160 (lv_at hl 1 rfl) ?_
  refine lv_icmp_eq (tgt := 1167) hx hb dL_law_1162 (by decide) (fun _ => ?_) (fun h => absurd (by decide) h)
  refine lv_iload hx hb dL_law_1167 (lv_at hl 1 rfl) ?_
  refine lv_if_ne (tgt := 1184) hx hb dL_law_1169 (by decide) (fun _ => ?_) (fun h => absurd h (by decide))
  refine lv_goto (tgt := 1370) hx hb dL_law_1184 (by decide) ?_
  exact law_end hC hr hlocks hX hbl hbA hAs hl9 _ _ (kW.sub hw [] rfl rfl) (by decide) (by decide) _ (lv_sub hl [2, 6] rfl)

set_option maxHeartbeats 4000000 in
set_option maxRecDepth 100000 in
theorem lc_27_ge_h {γ : kΓ} {l : Launch} {p : Program} {e : Env} {s : State} {m : MethodId} {below : List Frame} {meth : Method} {c : Code} {A : Nat → Prop} {b : Nat} {xs : Nat → Int32} (hC : kC γ p s m [Value.ref b].toArray c code 7 RL A) (hr : meth.sig.returnType = ret) (hlocks : meth.locks = false) (hX : va_X b 7 xs s s.heap) (hbl : b < s.heap.size) (hbA : ¬ A b) (hAs : ∀ q, A q → s.heap.size ≤ q) (hl9 : l.stackTraces = false) (x : Nat) (x0 : Nat) (x1 : Nat) (x2 : Nat) (x3 : Nat) (x4 : Nat) (x5 : Nat) (x6 : Nat) (x7 : Nat) (x8 : Nat) (x9 : Nat) (x10 : Nat) (z : Nat) (z2 : Nat) (z10 : Nat) (z11 : Nat) (z12 : Nat) (z13 : Nat) (z14 : Nat) (z15 : Nat) (z16 : Nat) (z17 : Nat) (z18 : Nat) (z19 : Nat) (z22 : Nat) (z23 : Nat) (z24 : Nat) (z25 : Nat) (z26 : Nat) (z27 : Nat) (z28 : Nat) (z29 : Nat) (z30 : Nat) (z31 : Nat) (z32 : Nat) (z33 : Nat) (z36 : Nat) (z37 : Nat) (z38 : Nat) (z39 : Nat) (z40 : Nat) (z41 : Nat) (z42 : Nat) (z43 : Nat) (z44 : Nat) (z45 : Nat) (z46 : Nat) (z47 : Nat) (z48 : Nat) (z55 : Nat) (z56 : Nat) (z59 : Nat) (z60 : Nat) (z61 : Nat) (ou : Nat) (hb0 : ¬ (xs 1) < 0) (hb1 : ¬ 9 < (xs 1)) (hl0 : ¬ (xs 2) < 0) (hl1 : ¬ 9 < (xs 2)) (h1 : ¬ (xs 3) < 0) (h2 : 9 < (xs 3)) (H : Heap) (locs : List Loc) (hw : kW γ A [(x, .inr (10, [.ref x0, .ref x1, .ref x2, .ref x3, .ref x4, .ref x5, .ref x6, .ref x7, .ref x8, .ref x9, .ref x10])), (z, .inr (11, [.int 0, .int 0, .ref z2, .int 0, .int 0, .int 0, .int 0, .long 0, .int 0, .int 0, .ref z10, .ref z11, .ref z12, .ref z13, .ref z14, .ref z15, .ref z16, .ref z17, .ref z18, .ref z19, .int 0, .int 0, .ref z22, .ref z23, .ref z24, .ref z25, .ref z26, .ref z27, .ref z28, .ref z29, .ref z30, .ref z31, .ref z32, .ref z33, .int 0, .long 0, .ref z36, .ref z37, .ref z38, .ref z39, .ref z40, .ref z41, .ref z42, .ref z43, .ref z44, .ref z45, .ref z46, .ref z47, .ref z48, .int 0, .int 10, .int 0, .int 0, .int 0, .int 0, .ref z55, .ref z56, .int 0, .int 0, .ref z59, .ref z60, .ref z61, .int 0, .long 0])), (ou, .inl (γ.2.1 1, 1, .inr (.inl (fun _ => 0))))] s H locs) (ls : Array Slot) (hl : lv_has ls 7 [(4, .int 0), (3, .ref ou), (2, .ref z), (1, .ref x), (0, .ref b)]) : W p l e room_1 s m [Value.ref b].toArray below meth c H locs 251 13922 (lw_Z below #[Value.ref b] s) (F0 m 1095 ls []) := by
  have hx := hC.1
  have hb := hC.2.1
  refine lv_aload_n hx hb dL_law_1095 rfl (lv_at hl 3 rfl) ?_
  refine lv_aload_n hx hb dL_law_1096 rfl (lv_at hl 4 rfl) ?_
  refine lv_iload hx hb dL_law_1097 (lv_at hl 0 rfl) ?_
  refine lv_iconst (v := 1) hx hb dL_law_1099 (by decide) ?_
  refine lv_iadd hx hb dL_law_1100 ?_
  refine lv_topi (fun x_2640 ex_2640 => ?_)
  obtain rfl : x_2640 = 1 := ex_2640.trans (by decide)
  refine va_sld hx hb hX hbl hbA hw.2.2 (k_in0 (by decide)) dL_law_1101 ?_
  refine lv_topi (fun x_2641 ex_2641 => ?_)
  obtain rfl : x_2641 = xs 1 := ex_2641
  refine lv_aload_n hx hb dL_law_1102 rfl (lv_at hl 4 rfl) ?_
  refine lv_iload hx hb dL_law_1103 (lv_at hl 0 rfl) ?_
  refine lv_iconst (v := 2) hx hb dL_law_1105 (by decide) ?_
  refine lv_iadd hx hb dL_law_1106 ?_
  refine lv_topi (fun x_2642 ex_2642 => ?_)
  obtain rfl : x_2642 = 2 := ex_2642.trans (by decide)
  refine va_sld hx hb hX hbl hbA hw.2.2 (k_in0 (by decide)) dL_law_1107 ?_
  refine lv_topi (fun x_2643 ex_2643 => ?_)
  obtain rfl : x_2643 = xs 2 := ex_2643
  refine lv_aload_n hx hb dL_law_1108 rfl (lv_at hl 4 rfl) ?_
  refine lv_iload hx hb dL_law_1109 (lv_at hl 0 rfl) ?_
  refine lv_iconst (v := 3) hx hb dL_law_1111 (by decide) ?_
  refine lv_iadd hx hb dL_law_1112 ?_
  refine lv_topi (fun x_2644 ex_2644 => ?_)
  obtain rfl : x_2644 = 3 := ex_2644.trans (by decide)
  refine va_sld hx hb hX hbl hbA hw.2.2 (k_in0 (by decide)) dL_law_1113 ?_
  refine lv_topi (fun x_2645 ex_2645 => ?_)
  obtain rfl : x_2645 = xs 3 := ex_2645
  refine lv_aload_n hx hb dL_law_1114 rfl (lv_at hl 4 rfl) ?_
  refine lv_iload hx hb dL_law_1115 (lv_at hl 0 rfl) ?_
  refine lv_iconst (v := 4) hx hb dL_law_1117 (by decide) ?_
  refine lv_iadd hx hb dL_law_1118 ?_
  refine lv_topi (fun x_2646 ex_2646 => ?_)
  obtain rfl : x_2646 = 4 := ex_2646.trans (by decide)
  refine va_sld hx hb hX hbl hbA hw.2.2 (k_in0 (by decide)) dL_law_1119 ?_
  refine lv_topi (fun x_2647 ex_2647 => ?_)
  obtain rfl : x_2647 = xs 4 := ex_2647
  refine lv_aload_n hx hb dL_law_1120 rfl (lv_at hl 1 rfl) ?_
  refine k_SW (wr := [(z, .inr (11, [.int 0, .int 0, .ref z2, .int 0, .int 0, .int 0, .int 0, .long 0, .int 0, .int 0, .ref z10, .ref z11, .ref z12, .ref z13, .ref z14, .ref z15, .ref z16, .ref z17, .ref z18, .ref z19, .int 0, .int 0, .ref z22, .ref z23, .ref z24, .ref z25, .ref z26, .ref z27, .ref z28, .ref z29, .ref z30, .ref z31, .ref z32, .ref z33, .int 0, .long 0, .ref z36, .ref z37, .ref z38, .ref z39, .ref z40, .ref z41, .ref z42, .ref z43, .ref z44, .ref z45, .ref z46, .ref z47, .ref z48, .int 0, .int 10, .int 0, .int 0, .int 0, .int 0, .ref z55, .ref z56, .int 0, .int 0, .ref z59, .ref z60, .ref z61, .int 0, .long 0]))]) 6 gw_1146 gw_1147 gw_0 gw_1148 hd_L_rests hC hw (c_L_rests_ge_h γ l hl9 x x0 x1 x2 x3 x4 x5 x6 x7 x8 x9 x10 (xs 1) (xs 2) (xs 3) (xs 4) ou (fun _ => 0) hb0 hb1 hl0 hl1 h1 h2) ⟨by decide, by decide⟩ ⟨by decide, by decide⟩ hl.1 rfl rfl (Nat.le_of_ble_eq_true rfl) [0, 2] [1] rfl rfl rfl rfl (by decide) dL_law_1121 (fun r w1 H locs hq hw => ?_)
  obtain ⟨rfl, rfl⟩ := hq
  have hw : kW γ A [(z, .inr (11, [.int 0, .int 0, .ref z2, .int 0, .int 0, .int 0, .int 0, .long 0, .int 0, .int 0, .ref z10, .ref z11, .ref z12, .ref z13, .ref z14, .ref z15, .ref z16, .ref z17, .ref z18, .ref z19, .int 0, .int 0, .ref z22, .ref z23, .ref z24, .ref z25, .ref z26, .ref z27, .ref z28, .ref z29, .ref z30, .ref z31, .ref z32, .ref z33, .int 0, .long 0, .ref z36, .ref z37, .ref z38, .ref z39, .ref z40, .ref z41, .ref z42, .ref z43, .ref z44, .ref z45, .ref z46, .ref z47, .ref z48, .int 0, .int 10, .int 0, .int 0, .int 0, .int 0, .ref z55, .ref z56, .int 0, .int 0, .ref z59, .ref z60, .ref z61, .int 0, .long 0])), (ou, .inl (γ.2.1 1, 1, .inr (.inl (fun _ => 0))))] s H locs := hw
  refine W.eq (g2 := F0 m 1124 ls [.int 1]) rfl ?_
  refine W.widen (k := 252) (n := 13928) (by decide) (by decide) ?_
  refine lv_istore (lv' := [(5, .int 1), (4, .int 0), (3, .ref ou), (2, .ref z), (1, .ref x), (0, .ref b)]) hx hb dL_law_1124 hl (by decide) rfl (fun ls hl => ?_)
  refine lv_aload_n hx hb dL_law_1126 rfl (lv_at hl 3 rfl) ?_
  refine lv_aload_n hx hb dL_law_1127 rfl (lv_at hl 5 rfl) ?_
  refine lv_iload hx hb dL_law_1128 (lv_at hl 1 rfl) ?_
  refine lv_iconst (v := 1) hx hb dL_law_1130 (by decide) ?_
  refine lv_iadd hx hb dL_law_1131 ?_
  refine lv_topi (fun x_2648 ex_2648 => ?_)
  obtain rfl : x_2648 = 1 := ex_2648.trans (by decide)
  refine va_sld hx hb hX hbl hbA hw.2.2 (k_in0 (by decide)) dL_law_1132 ?_
  refine lv_topi (fun x_2649 ex_2649 => ?_)
  obtain rfl : x_2649 = xs 1 := ex_2649
  refine lv_aload_n hx hb dL_law_1133 rfl (lv_at hl 5 rfl) ?_
  refine lv_iload hx hb dL_law_1134 (lv_at hl 1 rfl) ?_
  refine lv_iconst (v := 2) hx hb dL_law_1136 (by decide) ?_
  refine lv_iadd hx hb dL_law_1137 ?_
  refine lv_topi (fun x_2650 ex_2650 => ?_)
  obtain rfl : x_2650 = 2 := ex_2650.trans (by decide)
  refine va_sld hx hb hX hbl hbA hw.2.2 (k_in0 (by decide)) dL_law_1138 ?_
  refine lv_topi (fun x_2651 ex_2651 => ?_)
  obtain rfl : x_2651 = xs 2 := ex_2651
  refine lv_aload_n hx hb dL_law_1139 rfl (lv_at hl 5 rfl) ?_
  refine lv_iload hx hb dL_law_1140 (lv_at hl 1 rfl) ?_
  refine lv_iconst (v := 3) hx hb dL_law_1142 (by decide) ?_
  refine lv_iadd hx hb dL_law_1143 ?_
  refine lv_topi (fun x_2652 ex_2652 => ?_)
  obtain rfl : x_2652 = 3 := ex_2652.trans (by decide)
  refine va_sld hx hb hX hbl hbA hw.2.2 (k_in0 (by decide)) dL_law_1144 ?_
  refine lv_topi (fun x_2653 ex_2653 => ?_)
  obtain rfl : x_2653 = xs 3 := ex_2653
  refine lv_aload_n hx hb dL_law_1145 rfl (lv_at hl 5 rfl) ?_
  refine lv_iload hx hb dL_law_1146 (lv_at hl 1 rfl) ?_
  refine lv_iconst (v := 4) hx hb dL_law_1148 (by decide) ?_
  refine lv_iadd hx hb dL_law_1149 ?_
  refine lv_topi (fun x_2654 ex_2654 => ?_)
  obtain rfl : x_2654 = 4 := ex_2654.trans (by decide)
  refine va_sld hx hb hX hbl hbA hw.2.2 (k_in0 (by decide)) dL_law_1150 ?_
  refine lv_topi (fun x_2655 ex_2655 => ?_)
  obtain rfl : x_2655 = xs 4 := ex_2655
  refine k_V (wr := [(ou, .inl (γ.2.1 1, 1, .inr (.inl (fun _ => 0))))]) 4 gw_1780 gw_1781 gw_1782 gw_15 gw_1783 hd_X12_rests hC hw (c_X12_rests_ge_h γ l z z2 z10 z11 z12 z13 z14 z15 z16 z17 z18 z19 z22 z23 z24 z25 z26 z27 z28 z29 z30 z31 z32 z33 z36 z37 z38 z39 z40 z41 z42 z43 z44 z45 z46 z47 z48 z55 z56 z59 z60 z61 (xs 1) (xs 2) (xs 3) (xs 4) hb0 hb1 hl0 hl1 h1 h2) ⟨by decide, by decide⟩ ⟨by decide, by decide⟩ hl.1 rfl 0 rfl rfl rfl (Nat.le_of_ble_eq_true rfl) [0] [1] rfl rfl rfl rfl (by decide) dL_law_1151 (fun r w1 H locs hq hw => ?_)
  obtain ⟨rfl, rfl⟩ := hq
  have hw : kW γ A [(ou, .inl (γ.2.1 1, 1, .inr (.inl (fun _ => 0)))), (z, .inr (11, [.int 1, .int 0, .ref z2, .int 0, .int 0, .int 0, .int 0, .long 0, .int 0, .int 0, .ref z10, .ref z11, .ref z12, .ref z13, .ref z14, .ref z15, .ref z16, .ref z17, .ref z18, .ref z19, .int 0, .int 0, .ref z22, .ref z23, .ref z24, .ref z25, .ref z26, .ref z27, .ref z28, .ref z29, .ref z30, .ref z31, .ref z32, .ref z33, .int 0, .long 0, .ref z36, .ref z37, .ref z38, .ref z39, .ref z40, .ref z41, .ref z42, .ref z43, .ref z44, .ref z45, .ref z46, .ref z47, .ref z48, .int 0, .int 10, .int 0, .int 0, .int 0, .int 0, .ref z55, .ref z56, .int 0, .int 0, .ref z59, .ref z60, .ref z61, .int 0, .long 0]))] s H locs := hw
  refine W.eq (g2 := F0 m 1154 ls [.int 0]) rfl ?_
  refine lv_istore (lv' := [(6, .int 0), (5, .int 1), (4, .int 0), (3, .ref ou), (2, .ref z), (1, .ref x), (0, .ref b)]) hx hb dL_law_1154 hl (by decide) rfl (fun ls hl => ?_)
  refine lv_aload_n hx hb dL_law_1156 rfl (lv_at hl 4 rfl) ?_
  refine k_V (wr := [(ou, .inl (γ.2.1 1, 1, .inr (.inl (fun _ => 0))))]) 0 gw_1385 gw_1386 gw_1387 gw_15 gw_1388 hd_X12_thrown hC hw (c_X12_thrown γ l z z2 z10 z11 z12 z13 z14 z15 z16 z17 z18 z19 z22 z23 z24 z25 z26 z27 z28 z29 z30 z31 z32 z33 z36 z37 z38 z39 z40 z41 z42 z43 z44 z45 z46 z47 z48 z55 z56 z59 z60 z61 0 0 0 0 0 0 0 0 0 0 0 0 0 10 0 0 0 0 0 0 0 0 1) ⟨by decide, by decide⟩ ⟨by decide, by decide⟩ hl.1 rfl 1 rfl rfl rfl (Nat.le_of_ble_eq_true rfl) [1] [0] rfl rfl rfl rfl (by decide) dL_law_1157 (fun r w1 H locs hq hw => ?_)
  obtain ⟨rfl, rfl⟩ := hq
  have hw : kW γ A [(ou, .inl (γ.2.1 1, 1, .inr (.inl (fun _ => 0))))] s H locs := hw
  refine W.eq (g2 := F0 m 1160 ls [.int 1]) rfl ?_
  refine lv_iload hx hb dL_law_1160 (lv_at hl 1 rfl) ?_
  refine lv_icmp_eq (tgt := 1167) hx hb dL_law_1162 (by decide) (fun _ => ?_) (fun h => absurd (by decide) h)
  refine lv_iload hx hb dL_law_1167 (lv_at hl 1 rfl) ?_
  refine lv_if_ne (tgt := 1184) hx hb dL_law_1169 (by decide) (fun _ => ?_) (fun h => absurd h (by decide))
  refine lv_goto (tgt := 1370) hx hb dL_law_1184 (by decide) ?_
  exact law_end hC hr hlocks hX hbl hbA hAs hl9 _ _ (kW.sub hw [] rfl rfl) (by decide) (by decide) _ (lv_sub hl [2, 6] rfl)

set_option maxHeartbeats 4000000 in
set_option maxRecDepth 100000 in
theorem lc_27_wh {γ : kΓ} {l : Launch} {p : Program} {e : Env} {s : State} {m : MethodId} {below : List Frame} {meth : Method} {c : Code} {A : Nat → Prop} {b : Nat} {xs : Nat → Int32} (hC : kC γ p s m [Value.ref b].toArray c code 7 RL A) (hr : meth.sig.returnType = ret) (hlocks : meth.locks = false) (hX : va_X b 7 xs s s.heap) (hbl : b < s.heap.size) (hbA : ¬ A b) (hAs : ∀ q, A q → s.heap.size ≤ q) (hl9 : l.stackTraces = false) (x : Nat) (x0 : Nat) (x1 : Nat) (x2 : Nat) (x3 : Nat) (x4 : Nat) (x5 : Nat) (x6 : Nat) (x7 : Nat) (x8 : Nat) (x9 : Nat) (x10 : Nat) (z : Nat) (z2 : Nat) (z10 : Nat) (z11 : Nat) (z12 : Nat) (z13 : Nat) (z14 : Nat) (z15 : Nat) (z16 : Nat) (z17 : Nat) (z18 : Nat) (z19 : Nat) (z22 : Nat) (z23 : Nat) (z24 : Nat) (z25 : Nat) (z26 : Nat) (z27 : Nat) (z28 : Nat) (z29 : Nat) (z30 : Nat) (z31 : Nat) (z32 : Nat) (z33 : Nat) (z36 : Nat) (z37 : Nat) (z38 : Nat) (z39 : Nat) (z40 : Nat) (z41 : Nat) (z42 : Nat) (z43 : Nat) (z44 : Nat) (z45 : Nat) (z46 : Nat) (z47 : Nat) (z48 : Nat) (z55 : Nat) (z56 : Nat) (z59 : Nat) (z60 : Nat) (z61 : Nat) (ou : Nat) (hb0 : ¬ (xs 1) < 0) (hb1 : ¬ 9 < (xs 1)) (hl0 : ¬ (xs 2) < 0) (hl1 : ¬ 9 < (xs 2)) (hg0 : ¬ (xs 3) < 0) (hg1 : ¬ 9 < (xs 3)) (h1 : (xs 4) < -1) (H : Heap) (locs : List Loc) (hw : kW γ A [(x, .inr (10, [.ref x0, .ref x1, .ref x2, .ref x3, .ref x4, .ref x5, .ref x6, .ref x7, .ref x8, .ref x9, .ref x10])), (z, .inr (11, [.int 0, .int 0, .ref z2, .int 0, .int 0, .int 0, .int 0, .long 0, .int 0, .int 0, .ref z10, .ref z11, .ref z12, .ref z13, .ref z14, .ref z15, .ref z16, .ref z17, .ref z18, .ref z19, .int 0, .int 0, .ref z22, .ref z23, .ref z24, .ref z25, .ref z26, .ref z27, .ref z28, .ref z29, .ref z30, .ref z31, .ref z32, .ref z33, .int 0, .long 0, .ref z36, .ref z37, .ref z38, .ref z39, .ref z40, .ref z41, .ref z42, .ref z43, .ref z44, .ref z45, .ref z46, .ref z47, .ref z48, .int 0, .int 10, .int 0, .int 0, .int 0, .int 0, .ref z55, .ref z56, .int 0, .int 0, .ref z59, .ref z60, .ref z61, .int 0, .long 0])), (ou, .inl (γ.2.1 1, 1, .inr (.inl (fun _ => 0))))] s H locs) (ls : Array Slot) (hl : lv_has ls 7 [(4, .int 0), (3, .ref ou), (2, .ref z), (1, .ref x), (0, .ref b)]) : W p l e room_1 s m [Value.ref b].toArray below meth c H locs 251 13922 (lw_Z below #[Value.ref b] s) (F0 m 1095 ls []) := by
  have hx := hC.1
  have hb := hC.2.1
  refine lv_aload_n hx hb dL_law_1095 rfl (lv_at hl 3 rfl) ?_
  refine lv_aload_n hx hb dL_law_1096 rfl (lv_at hl 4 rfl) ?_
  refine lv_iload hx hb dL_law_1097 (lv_at hl 0 rfl) ?_
  refine lv_iconst (v := 1) hx hb dL_law_1099 (by decide) ?_
  refine lv_iadd hx hb dL_law_1100 ?_
  refine lv_topi (fun x_2656 ex_2656 => ?_)
  obtain rfl : x_2656 = 1 := ex_2656.trans (by decide)
  refine va_sld hx hb hX hbl hbA hw.2.2 (k_in0 (by decide)) dL_law_1101 ?_
  refine lv_topi (fun x_2657 ex_2657 => ?_)
  obtain rfl : x_2657 = xs 1 := ex_2657
  refine lv_aload_n hx hb dL_law_1102 rfl (lv_at hl 4 rfl) ?_
  refine lv_iload hx hb dL_law_1103 (lv_at hl 0 rfl) ?_
  refine lv_iconst (v := 2) hx hb dL_law_1105 (by decide) ?_
  refine lv_iadd hx hb dL_law_1106 ?_
  refine lv_topi (fun x_2658 ex_2658 => ?_)
  obtain rfl : x_2658 = 2 := ex_2658.trans (by decide)
  refine va_sld hx hb hX hbl hbA hw.2.2 (k_in0 (by decide)) dL_law_1107 ?_
  refine lv_topi (fun x_2659 ex_2659 => ?_)
  obtain rfl : x_2659 = xs 2 := ex_2659
  refine lv_aload_n hx hb dL_law_1108 rfl (lv_at hl 4 rfl) ?_
  refine lv_iload hx hb dL_law_1109 (lv_at hl 0 rfl) ?_
  refine lv_iconst (v := 3) hx hb dL_law_1111 (by decide) ?_
  refine lv_iadd hx hb dL_law_1112 ?_
  refine lv_topi (fun x_2660 ex_2660 => ?_)
  obtain rfl : x_2660 = 3 := ex_2660.trans (by decide)
  refine va_sld hx hb hX hbl hbA hw.2.2 (k_in0 (by decide)) dL_law_1113 ?_
  refine lv_topi (fun x_2661 ex_2661 => ?_)
  obtain rfl : x_2661 = xs 3 := ex_2661
  refine lv_aload_n hx hb dL_law_1114 rfl (lv_at hl 4 rfl) ?_
  refine lv_iload hx hb dL_law_1115 (lv_at hl 0 rfl) ?_
  refine lv_iconst (v := 4) hx hb dL_law_1117 (by decide) ?_
  refine lv_iadd hx hb dL_law_1118 ?_
  refine lv_topi (fun x_2662 ex_2662 => ?_)
  obtain rfl : x_2662 = 4 := ex_2662.trans (by decide)
  refine va_sld hx hb hX hbl hbA hw.2.2 (k_in0 (by decide)) dL_law_1119 ?_
  refine lv_topi (fun x_2663 ex_2663 => ?_)
  obtain rfl : x_2663 = xs 4 := ex_2663
  refine lv_aload_n hx hb dL_law_1120 rfl (lv_at hl 1 rfl) ?_
  refine k_SW (wr := [(z, .inr (11, [.int 0, .int 0, .ref z2, .int 0, .int 0, .int 0, .int 0, .long 0, .int 0, .int 0, .ref z10, .ref z11, .ref z12, .ref z13, .ref z14, .ref z15, .ref z16, .ref z17, .ref z18, .ref z19, .int 0, .int 0, .ref z22, .ref z23, .ref z24, .ref z25, .ref z26, .ref z27, .ref z28, .ref z29, .ref z30, .ref z31, .ref z32, .ref z33, .int 0, .long 0, .ref z36, .ref z37, .ref z38, .ref z39, .ref z40, .ref z41, .ref z42, .ref z43, .ref z44, .ref z45, .ref z46, .ref z47, .ref z48, .int 0, .int 10, .int 0, .int 0, .int 0, .int 0, .ref z55, .ref z56, .int 0, .int 0, .ref z59, .ref z60, .ref z61, .int 0, .long 0]))]) 6 gw_1146 gw_1147 gw_0 gw_1148 hd_L_rests hC hw (c_L_rests_wh γ l hl9 x x0 x1 x2 x3 x4 x5 x6 x7 x8 x9 x10 (xs 1) (xs 2) (xs 3) (xs 4) ou (fun _ => 0) hb0 hb1 hl0 hl1 hg0 hg1 h1) ⟨by decide, by decide⟩ ⟨by decide, by decide⟩ hl.1 rfl rfl (Nat.le_of_ble_eq_true rfl) [0, 2] [1] rfl rfl rfl rfl (by decide) dL_law_1121 (fun r w1 H locs hq hw => ?_)
  obtain ⟨rfl, rfl⟩ := hq
  have hw : kW γ A [(z, .inr (11, [.int 0, .int 0, .ref z2, .int 0, .int 0, .int 0, .int 0, .long 0, .int 0, .int 0, .ref z10, .ref z11, .ref z12, .ref z13, .ref z14, .ref z15, .ref z16, .ref z17, .ref z18, .ref z19, .int 0, .int 0, .ref z22, .ref z23, .ref z24, .ref z25, .ref z26, .ref z27, .ref z28, .ref z29, .ref z30, .ref z31, .ref z32, .ref z33, .int 0, .long 0, .ref z36, .ref z37, .ref z38, .ref z39, .ref z40, .ref z41, .ref z42, .ref z43, .ref z44, .ref z45, .ref z46, .ref z47, .ref z48, .int 0, .int 10, .int 0, .int 0, .int 0, .int 0, .ref z55, .ref z56, .int 0, .int 0, .ref z59, .ref z60, .ref z61, .int 0, .long 0])), (ou, .inl (γ.2.1 1, 1, .inr (.inl (fun _ => 0))))] s H locs := hw
  refine W.eq (g2 := F0 m 1124 ls [.int 1]) rfl ?_
  refine W.widen (k := 252) (n := 13928) (by decide) (by decide) ?_
  refine lv_istore (lv' := [(5, .int 1), (4, .int 0), (3, .ref ou), (2, .ref z), (1, .ref x), (0, .ref b)]) hx hb dL_law_1124 hl (by decide) rfl (fun ls hl => ?_)
  refine lv_aload_n hx hb dL_law_1126 rfl (lv_at hl 3 rfl) ?_
  refine lv_aload_n hx hb dL_law_1127 rfl (lv_at hl 5 rfl) ?_
  refine lv_iload hx hb dL_law_1128 (lv_at hl 1 rfl) ?_
  refine lv_iconst (v := 1) hx hb dL_law_1130 (by decide) ?_
  refine lv_iadd hx hb dL_law_1131 ?_
  refine lv_topi (fun x_2664 ex_2664 => ?_)
  obtain rfl : x_2664 = 1 := ex_2664.trans (by decide)
  refine va_sld hx hb hX hbl hbA hw.2.2 (k_in0 (by decide)) dL_law_1132 ?_
  refine lv_topi (fun x_2665 ex_2665 => ?_)
  obtain rfl : x_2665 = xs 1 := ex_2665
  refine lv_aload_n hx hb dL_law_1133 rfl (lv_at hl 5 rfl) ?_
  refine lv_iload hx hb dL_law_1134 (lv_at hl 1 rfl) ?_
  refine lv_iconst (v := 2) hx hb dL_law_1136 (by decide) ?_
  refine lv_iadd hx hb dL_law_1137 ?_
  refine lv_topi (fun x_2666 ex_2666 => ?_)
  obtain rfl : x_2666 = 2 := ex_2666.trans (by decide)
  refine va_sld hx hb hX hbl hbA hw.2.2 (k_in0 (by decide)) dL_law_1138 ?_
  refine lv_topi (fun x_2667 ex_2667 => ?_)
  obtain rfl : x_2667 = xs 2 := ex_2667
  refine lv_aload_n hx hb dL_law_1139 rfl (lv_at hl 5 rfl) ?_
  refine lv_iload hx hb dL_law_1140 (lv_at hl 1 rfl) ?_
  refine lv_iconst (v := 3) hx hb dL_law_1142 (by decide) ?_
  refine lv_iadd hx hb dL_law_1143 ?_
  refine lv_topi (fun x_2668 ex_2668 => ?_)
  obtain rfl : x_2668 = 3 := ex_2668.trans (by decide)
  refine va_sld hx hb hX hbl hbA hw.2.2 (k_in0 (by decide)) dL_law_1144 ?_
  refine lv_topi (fun x_2669 ex_2669 => ?_)
  obtain rfl : x_2669 = xs 3 := ex_2669
  refine lv_aload_n hx hb dL_law_1145 rfl (lv_at hl 5 rfl) ?_
  refine lv_iload hx hb dL_law_1146 (lv_at hl 1 rfl) ?_
  refine lv_iconst (v := 4) hx hb dL_law_1148 (by decide) ?_
  refine lv_iadd hx hb dL_law_1149 ?_
  refine lv_topi (fun x_2670 ex_2670 => ?_)
  obtain rfl : x_2670 = 4 := ex_2670.trans (by decide)
  refine va_sld hx hb hX hbl hbA hw.2.2 (k_in0 (by decide)) dL_law_1150 ?_
  refine lv_topi (fun x_2671 ex_2671 => ?_)
  obtain rfl : x_2671 = xs 4 := ex_2671
  refine k_V (wr := [(ou, .inl (γ.2.1 1, 1, .inr (.inl (fun _ => 0))))]) 4 gw_1780 gw_1781 gw_1782 gw_15 gw_1783 hd_X12_rests hC hw (c_X12_rests_wh γ l z z2 z10 z11 z12 z13 z14 z15 z16 z17 z18 z19 z22 z23 z24 z25 z26 z27 z28 z29 z30 z31 z32 z33 z36 z37 z38 z39 z40 z41 z42 z43 z44 z45 z46 z47 z48 z55 z56 z59 z60 z61 (xs 1) (xs 2) (xs 3) (xs 4) hb0 hb1 hl0 hl1 hg0 hg1 h1) ⟨by decide, by decide⟩ ⟨by decide, by decide⟩ hl.1 rfl 0 rfl rfl rfl (Nat.le_of_ble_eq_true rfl) [0] [1] rfl rfl rfl rfl (by decide) dL_law_1151 (fun r w1 H locs hq hw => ?_)
  obtain ⟨rfl, rfl⟩ := hq
  have hw : kW γ A [(ou, .inl (γ.2.1 1, 1, .inr (.inl (fun _ => 0)))), (z, .inr (11, [.int 1, .int 0, .ref z2, .int 0, .int 0, .int 0, .int 0, .long 0, .int 0, .int 0, .ref z10, .ref z11, .ref z12, .ref z13, .ref z14, .ref z15, .ref z16, .ref z17, .ref z18, .ref z19, .int 0, .int 0, .ref z22, .ref z23, .ref z24, .ref z25, .ref z26, .ref z27, .ref z28, .ref z29, .ref z30, .ref z31, .ref z32, .ref z33, .int 0, .long 0, .ref z36, .ref z37, .ref z38, .ref z39, .ref z40, .ref z41, .ref z42, .ref z43, .ref z44, .ref z45, .ref z46, .ref z47, .ref z48, .int 0, .int 10, .int 0, .int 0, .int 0, .int 0, .ref z55, .ref z56, .int 0, .int 0, .ref z59, .ref z60, .ref z61, .int 0, .long 0]))] s H locs := hw
  refine W.eq (g2 := F0 m 1154 ls [.int 0]) rfl ?_
  refine lv_istore (lv' := [(6, .int 0), (5, .int 1), (4, .int 0), (3, .ref ou), (2, .ref z), (1, .ref x), (0, .ref b)]) hx hb dL_law_1154 hl (by decide) rfl (fun ls hl => ?_)
  refine lv_aload_n hx hb dL_law_1156 rfl (lv_at hl 4 rfl) ?_
  refine k_V (wr := [(ou, .inl (γ.2.1 1, 1, .inr (.inl (fun _ => 0))))]) 0 gw_1385 gw_1386 gw_1387 gw_15 gw_1388 hd_X12_thrown hC hw (c_X12_thrown γ l z z2 z10 z11 z12 z13 z14 z15 z16 z17 z18 z19 z22 z23 z24 z25 z26 z27 z28 z29 z30 z31 z32 z33 z36 z37 z38 z39 z40 z41 z42 z43 z44 z45 z46 z47 z48 z55 z56 z59 z60 z61 0 0 0 0 0 0 0 0 0 0 0 0 0 10 0 0 0 0 0 0 0 0 1) ⟨by decide, by decide⟩ ⟨by decide, by decide⟩ hl.1 rfl 1 rfl rfl rfl (Nat.le_of_ble_eq_true rfl) [1] [0] rfl rfl rfl rfl (by decide) dL_law_1157 (fun r w1 H locs hq hw => ?_)
  obtain ⟨rfl, rfl⟩ := hq
  have hw : kW γ A [(ou, .inl (γ.2.1 1, 1, .inr (.inl (fun _ => 0))))] s H locs := hw
  refine W.eq (g2 := F0 m 1160 ls [.int 1]) rfl ?_
  refine lv_iload hx hb dL_law_1160 (lv_at hl 1 rfl) ?_
  refine lv_icmp_eq (tgt := 1167) hx hb dL_law_1162 (by decide) (fun _ => ?_) (fun h => absurd (by decide) h)
  refine lv_iload hx hb dL_law_1167 (lv_at hl 1 rfl) ?_
  refine lv_if_ne (tgt := 1184) hx hb dL_law_1169 (by decide) (fun _ => ?_) (fun h => absurd h (by decide))
  refine lv_goto (tgt := 1370) hx hb dL_law_1184 (by decide) ?_
  exact law_end hC hr hlocks hX hbl hbA hAs hl9 _ _ (kW.sub hw [] rfl rfl) (by decide) (by decide) _ (lv_sub hl [2, 6] rfl)


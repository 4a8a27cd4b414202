theorem k_le_succ {t : Int32} (h : 3 < t) : 4 ≤ t := by
  rw [Int32.lt_iff_toInt_lt] at h
  rw [Int32.le_iff_toInt_le]
  have h3 : (3 : Int32).toInt = 3 := by decide
  have h4 : (4 : Int32).toInt = 4 := by decide
  omega
theorem k_cmp_self (x : Int64) : lg_cmp x x = 0 := by
  unfold lg_cmp; simp
theorem k_L7 : ∀ L, L < 7 → Int32.ofNat L - 7 < 0 := by decide
set_option maxHeartbeats 4000000 in
set_option maxRecDepth 100000 in
theorem law_ret {γ : kΓ} {l : Launch} {p : Program} {e : Env} {s : State} {m : MethodId} {below : List Frame} {meth : Method} {c : Code} {A : Nat → Prop} {b : Nat} {xs : Nat → Int32} (hC : kC γ p s m [Value.ref b].toArray c code 7 RL A) (hr : meth.sig.returnType = ret) (hlocks : meth.locks = false) (hX : va_X b 7 xs s s.heap) (hbl : b < s.heap.size) (hbA : ¬ A b) (hAs : ∀ q, A q → s.heap.size ≤ q) (hl9 : l.stackTraces = false) {cells slots : Nat} (H : Heap) (locs : List Loc) (hlo : ∀ q ∈ locs, s.heap.size ≤ q.base) (hc9 : cells ≤ 600002) (hs9 : slots ≤ 7302232) (ls : Array Slot) : W p l e room_1 s m [Value.ref b].toArray below meth c H locs cells slots (lw_Z below #[Value.ref b] s) (F0 m 1376 ls []) := by
  have hx := hC.1
  have hb := hC.2.1
  refine lv_iconst (v := 1) hx hb dL_law_1376 (by decide) ?_
  refine va_forget hlo ?_
  refine W.widen (k := 600002) (n := 7302232) hc9 hs9 ?_
  exact lw_ret hx hb hr hlocks dL_law_1377

set_option maxHeartbeats 4000000 in
set_option maxRecDepth 100000 in
theorem law_end {γ : kΓ} {l : Launch} {p : Program} {e : Env} {s : State} {m : MethodId} {below : List Frame} {meth : Method} {c : Code} {A : Nat → Prop} {b : Nat} {xs : Nat → Int32} (hC : kC γ p s m [Value.ref b].toArray c code 7 RL A) (hr : meth.sig.returnType = ret) (hlocks : meth.locks = false) (hX : va_X b 7 xs s s.heap) (hbl : b < s.heap.size) (hbA : ¬ A b) (hAs : ∀ q, A q → s.heap.size ≤ q) (hl9 : l.stackTraces = false) {cells slots : Nat} (H : Heap) (locs : List Loc) (hw : kW γ A [] s H locs) (hc9 : cells ≤ 600002) (hs9 : slots ≤ 7302232) (ls : Array Slot) (hl : lv_has ls 7 [(4, .int 0), (0, .ref b)]) : W p l e room_1 s m [Value.ref b].toArray below meth c H locs cells slots (lw_Z below #[Value.ref b] s) (F0 m 1370 ls []) := by
  have hx := hC.1
  have hb := hC.2.1
  refine lv_iinc (v := 7) (lv' := [(4, .int 7), (0, .ref b)]) hx hb dL_law_1370 hl (k := 0) rfl (by decide) (by decide) rfl (fun ls hl => ?_)
  refine lv_goto (tgt := 23) hx hb dL_law_1373 (by decide) ?_
  refine lv_iload hx hb dL_law_23 (lv_at hl 0 rfl) ?_
  refine lv_aload_n hx hb dL_law_25 rfl (lv_at hl 1 rfl) ?_
  refine va_slen hx hb hX hbl hbA hw.2.2 dL_law_26 ?_
  refine lv_bipush (v := 7) hx hb dL_law_27 (by decide) ?_
  refine lv_isub hx hb dL_law_29 ?_
  refine lv_topi (fun x_9 ex_9 => ?_)
  obtain rfl : x_9 = 0 := ex_9.trans (by decide)
  refine lv_icmp_gt (tgt := 1376) hx hb dL_law_30 (by decide) (fun _ => ?_) (fun h => absurd (by decide) h)
  exact law_ret hC hr hlocks hX hbl hbA hAs hl9 H locs (fun q hq => hAs _ (hw.2.2.2.2 q hq)) hc9 hs9 _

set_option maxHeartbeats 4000000 in
set_option maxRecDepth 100000 in
theorem lc_1 {γ : kΓ} {l : Launch} {p : Program} {e : Env} {s : State} {m : MethodId} {below : List Frame} {meth : Method} {c : Code} {A : Nat → Prop} {b : Nat} {xs : Nat → Int32} (hC : kC γ p s m [Value.ref b].toArray c code 7 RL A) (hr : meth.sig.returnType = ret) (hlocks : meth.locks = false) (hX : va_X b 7 xs s s.heap) (hbl : b < s.heap.size) (hbA : ¬ A b) (hAs : ∀ q, A q → s.heap.size ≤ q) (hl9 : l.stackTraces = false) (x : Nat) (x0 : Nat) (x1 : Nat) (x2 : Nat) (x3 : Nat) (x4 : Nat) (x5 : Nat) (x6 : Nat) (x7 : Nat) (x8 : Nat) (x9 : Nat) (x10 : Nat) (z : Nat) (z2 : Nat) (z10 : Nat) (z11 : Nat) (z12 : Nat) (z13 : Nat) (z14 : Nat) (z15 : Nat) (z16 : Nat) (z17 : Nat) (z18 : Nat) (z19 : Nat) (z22 : Nat) (z23 : Nat) (z24 : Nat) (z25 : Nat) (z26 : Nat) (z27 : Nat) (z28 : Nat) (z29 : Nat) (z30 : Nat) (z31 : Nat) (z32 : Nat) (z33 : Nat) (z36 : Nat) (z37 : Nat) (z38 : Nat) (z39 : Nat) (z40 : Nat) (z41 : Nat) (z42 : Nat) (z43 : Nat) (z44 : Nat) (z45 : Nat) (z46 : Nat) (z47 : Nat) (z48 : Nat) (z55 : Nat) (z56 : Nat) (z59 : Nat) (z60 : Nat) (z61 : Nat) (x90 : Nat) (x91 : Nat) (x92 : Nat) (x93 : Nat) (x94 : Nat) (x95 : Nat) (x96 : Nat) (x97 : Nat) (x100 : Nat) (x101 : Nat) (x102 : Nat) (x103 : Nat) (x104 : Nat) (x105 : Nat) (x106 : Nat) (x107 : Nat) (ua : Nat) (x0g : Nat) (x8n : Nat) (x2s : Nat) (x2y : Nat) (x2q : Nat) (x2s_l : Nat) (x2s_c : Nat) (x2s_g : Nat) (x2s_r : Nat) (x2s_k : Nat) (x2s_b : Nat) (fx2s_l : Nat → Int32) (fx2s_c : Nat → Int32) (fx2s_g : Nat → Int32) (fx2s_r : Nat → Int64) (fx2s_k : Nat → Int32) (fx2s_b : Nat → Int32) (fx2y : Nat → Int32) (fx2q : Nat → Int32) (fm : Nat → Option Nat) (ma : Nat) (mas : Nat) (may : Nat) (maq : Nat) (mb : Nat) (mbs : Nat) (mby : Nat) (mbq : Nat) (mc : Nat) (mcs : Nat) (mcy : Nat) (mcq : Nat) (md : Nat) (mds : Nat) (mdy : Nat) (mdq : Nat) (fa : Nat → Int32) (ou : Nat) (ha0 : fa 0 = 0) (ha1 : fa 1 = 0) (ha2 : fa 2 = 10) (ha3 : fa 3 = 10) (ha4 : fa 4 = 3) (hm0 : fm 0 = some ma) (hm1 : fm 1 = some mb) (hm2 : fm 2 = some mc) (hm3 : fm 3 = some md) (hz : ∀ j, j < 5 → fx2s_g j = 0) (H : Heap) (locs : List Loc) (hw : kW γ A [(x, .inr (10, [.ref x0, .ref x1, .ref x2, .ref x3, .ref x4, .ref x5, .ref x6, .ref x7, .ref x8, .ref x9, .ref x10])), (z, .inr (11, [.int 0, .int 0, .ref z2, .int 0, .int 0, .int 0, .int 0, .long 0, .int 0, .int 0, .ref z10, .ref z11, .ref z12, .ref z13, .ref z14, .ref z15, .ref z16, .ref z17, .ref z18, .ref z19, .int 0, .int 0, .ref z22, .ref z23, .ref z24, .ref z25, .ref z26, .ref z27, .ref z28, .ref z29, .ref z30, .ref z31, .ref z32, .ref z33, .int 0, .long 0, .ref z36, .ref z37, .ref z38, .ref z39, .ref z40, .ref z41, .ref z42, .ref z43, .ref z44, .ref z45, .ref z46, .ref z47, .ref z48, .int 0, .int 10, .int 0, .int 0, .int 0, .int 0, .ref z55, .ref z56, .int 0, .int 0, .ref z59, .ref z60, .ref z61, .int 0, .long 0])), (x9, .inr (0, [.ref x90, .ref x91, .ref x92, .ref x93, .ref x94, .ref x95, .ref x96, .ref x97, .int 0, .int 0, .int 10, .int 10, .int 3, .int 0, .int 0, .int 0, .int 0, .int 0, .int 0])), (x10, .inr (0, [.ref x100, .ref x101, .ref x102, .ref x103, .ref x104, .ref x105, .ref x106, .ref x107, .int 0, .int 0, .int 10, .int 10, .int 3, .int 0, .int 0, .int 0, .int 0, .int 0, .int 0])), (x1, .inr (9, [.ref ua, .int 0, .int 0])), (x0, .inr (8, [.ref x0g, .int 0, .int 0, .int 0, .int 0, .int 0, .long 0, .ref γ.2.2.2])), (x8, .inr (5, [.ref x0, .ref x8n, .ref x9, .int 0, .int 0])), (x2, .inr (3, [.ref x2s, .ref x2y, .ref x2q, .int 0, .int 0, .int 0])), (x2s, .inr (7, [.ref x2s_l, .ref x2s_c, .ref x2s_g, .ref x2s_r, .ref x2s_k, .ref x2s_b, .int 0, .int 0, .int 0])), (x2s_l, .inl (γ.2.1 0, 5, .inl fx2s_l)), (x2s_c, .inl (γ.2.1 0, 5, .inl fx2s_c)), (x2s_g, .inl (γ.2.1 0, 5, .inl fx2s_g)), (x2s_r, .inl (γ.2.1 1, 5, .inr (.inl fx2s_r))), (x2s_k, .inl (γ.2.1 0, 40, .inl fx2s_k)), (x2s_b, .inl (γ.2.1 0, 8, .inl fx2s_b)), (x2y, .inl (γ.2.1 0, 40, .inl fx2y)), (x2q, .inl (γ.2.1 0, 8, .inl fx2q)), (x3, .inl (γ.2.1 4, 4, .inr (.inr (.inr (.inr fm))))), (ma, .inr (3, [.ref mas, .ref may, .ref maq, .int 0, .int 0, .int 0])), (mb, .inr (3, [.ref mbs, .ref mby, .ref mbq, .int 0, .int 0, .int 0])), (mc, .inr (3, [.ref mcs, .ref mcy, .ref mcq, .int 0, .int 0, .int 0])), (md, .inr (3, [.ref mds, .ref mdy, .ref mdq, .int 0, .int 0, .int 0])), (z10, .inl (γ.2.1 0, 10, .inl fa)), (z11, .inl (γ.2.1 1, 16, .inr (.inl (fun _ => 0)))), (z12, .inl (γ.2.1 1, 10, .inr (.inl (fun _ => 0)))), (z13, .inl (γ.2.1 0, 16, .inl (fun _ => 0))), (z14, .inl (γ.2.1 0, 16, .inl (fun _ => 0))), (z15, .inl (γ.2.1 0, 16, .inl (fun _ => 0))), (z16, .inl (γ.2.1 0, 10, .inl (fun _ => 0))), (z19, .inl (γ.2.1 0, 2000, .inl (fun _ => 0))), (z17, .inl (γ.2.1 0, 4, .inl (fun _ => 0))), (z18, .inl (γ.2.1 0, 4, .inl (fun _ => 0))), (z43, .inl (γ.2.1 0, 133, .inl (fun _ => 0))), (z36, .inl (γ.2.1 0, 6, .inl (fun _ => 0))), (z40, .inl (γ.2.1 0, 5, .inl (fun _ => 0))), (z48, .inl (γ.2.1 3, 4, .inl (fun _ => 0)))] s H locs) (ls : Array Slot) (hl : lv_has ls 7 [(4, .int 0), (3, .ref ou), (2, .ref z), (1, .ref x), (0, .ref b)]) : W p l e room_1 s m [Value.ref b].toArray below meth c H locs 251 13922 (lw_Z below #[Value.ref b] s) (F0 m 331 ls []) := by
  have hx := hC.1
  have hb := hC.2.1
  refine lv_aload_n hx hb dL_law_331 rfl (lv_at hl 3 rfl) ?_
  refine k_V (wr := [(z, .inr (11, [.int 0, .int 0, .ref z2, .int 0, .int 0, .int 0, .int 0, .long 0, .int 0, .int 0, .ref z10, .ref z11, .ref z12, .ref z13, .ref z14, .ref z15, .ref z16, .ref z17, .ref z18, .ref z19, .int 0, .int 0, .ref z22, .ref z23, .ref z24, .ref z25, .ref z26, .ref z27, .ref z28, .ref z29, .ref z30, .ref z31, .ref z32, .ref z33, .int 0, .long 0, .ref z36, .ref z37, .ref z38, .ref z39, .ref z40, .ref z41, .ref z42, .ref z43, .ref z44, .ref z45, .ref z46, .ref z47, .ref z48, .int 0, .int 10, .int 0, .int 0, .int 0, .int 0, .ref z55, .ref z56, .int 0, .int 0, .ref z59, .ref z60, .ref z61, .int 0, .long 0])), (z10, .inl (γ.2.1 0, 10, .inl fa)), (z11, .inl (γ.2.1 1, 16, .inr (.inl (fun _ => 0)))), (z12, .inl (γ.2.1 1, 10, .inr (.inl (fun _ => 0)))), (z13, .inl (γ.2.1 0, 16, .inl (fun _ => 0))), (z14, .inl (γ.2.1 0, 16, .inl (fun _ => 0))), (z15, .inl (γ.2.1 0, 16, .inl (fun _ => 0))), (z16, .inl (γ.2.1 0, 10, .inl (fun _ => 0))), (z19, .inl (γ.2.1 0, 2000, .inl (fun _ => 0))), (z17, .inl (γ.2.1 0, 4, .inl (fun _ => 0))), (z18, .inl (γ.2.1 0, 4, .inl (fun _ => 0))), (z43, .inl (γ.2.1 0, 133, .inl (fun _ => 0))), (z36, .inl (γ.2.1 0, 6, .inl (fun _ => 0))), (z40, .inl (γ.2.1 0, 5, .inl (fun _ => 0))), (z48, .inl (γ.2.1 3, 4, .inl (fun _ => 0)))]) 0 gw_443 gw_444 gw_445 gw_1 gw_446 hd_X11_abbey hC hw (c_X11_abbey γ l x x0 x1 x2 x3 x4 x5 x6 x7 x8 x9 x10 x90 x91 x92 x93 x94 x95 x96 x97 x100 x101 x102 x103 x104 x105 x106 x107 ua x0g x8n x2s x2s_l x2s_c x2s_g x2s_r x2s_k x2s_b x2y x2q fx2s_l fx2s_c fx2s_g fx2s_r fx2s_k fx2s_b fx2y fx2q fm ma mas may maq mb mbs mby mbq mc mcs mcy mcq md mds mdy mdq hm0 hm1 hm2 hm3) ⟨by decide, by decide⟩ ⟨by decide, by decide⟩ hl.1 rfl 0 rfl rfl rfl (Nat.le_of_ble_eq_true rfl) [0, 2, 3, 4, 5, 6, 7, 8, 9, 10, 11, 12, 13, 14, 15, 16, 17, 18, 19, 20, 21] [1, 22, 23, 24, 25, 26, 27, 28, 29, 30, 31, 32, 33, 34, 35] rfl rfl rfl rfl (by decide) dL_law_332 (fun r w1 H locs hq hw => ?_)
  obtain ⟨rfl, rfl⟩ := hq
  have hw : kW γ A [(z, .inr (11, [.int 0, .int 0, .ref z2, .int 0, .int 0, .int 0, .int 0, .long 0, .int 0, .int 0, .ref z10, .ref z11, .ref z12, .ref z13, .ref z14, .ref z15, .ref z16, .ref z17, .ref z18, .ref z19, .int 0, .int 0, .ref z22, .ref z23, .ref z24, .ref z25, .ref z26, .ref z27, .ref z28, .ref z29, .ref z30, .ref z31, .ref z32, .ref z33, .int 0, .long 0, .ref z36, .ref z37, .ref z38, .ref z39, .ref z40, .ref z41, .ref z42, .ref z43, .ref z44, .ref z45, .ref z46, .ref z47, .ref z48, .int 0, .int 10, .int 0, .int 0, .int 0, .int 0, .ref z55, .ref z56, .int 0, .int 0, .ref z59, .ref z60, .ref z61, .int 0, .long 0])), (z10, .inl (γ.2.1 0, 10, .inl fa)), (z11, .inl (γ.2.1 1, 16, .inr (.inl (fun _ => 0)))), (z12, .inl (γ.2.1 1, 10, .inr (.inl (fun _ => 0)))), (z13, .inl (γ.2.1 0, 16, .inl (fun _ => 0))), (z14, .inl (γ.2.1 0, 16, .inl (fun _ => 0))), (z15, .inl (γ.2.1 0, 16, .inl (fun _ => 0))), (z16, .inl (γ.2.1 0, 10, .inl (fun _ => 0))), (z19, .inl (γ.2.1 0, 2000, .inl (fun _ => 0))), (z17, .inl (γ.2.1 0, 4, .inl (fun _ => 0))), (z18, .inl (γ.2.1 0, 4, .inl (fun _ => 0))), (z43, .inl (γ.2.1 0, 133, .inl (fun _ => 0))), (z36, .inl (γ.2.1 0, 6, .inl (fun _ => 0))), (z40, .inl (γ.2.1 0, 5, .inl (fun _ => 0))), (z48, .inl (γ.2.1 3, 4, .inl (fun _ => 0)))] s H locs := hw
  refine W.eq (g2 := F0 m 335 ls [.int 0]) rfl ?_
  refine lv_aload_n hx hb dL_law_335 rfl (lv_at hl 2 rfl) ?_
  refine k_V (wr := []) 0 gw_1394 gw_1395 gw_1396 gw_15 gw_1397 hd_X12_abbey hC hw (c_X12_abbey γ l z z2 z10 z11 z12 z13 z14 z15 z16 z17 z18 z19 z22 z23 z24 z25 z26 z27 z28 z29 z30 z31 z32 z33 z36 z37 z38 z39 z40 z41 z42 z43 z44 z45 z46 z47 z48 z55 z56 z59 z60 z61 fa (fun _ => 0) ha0 ha1 ha2 ha3 ha4) ⟨by decide, by decide⟩ ⟨by decide, by decide⟩ hl.1 rfl 0 rfl rfl rfl (Nat.le_of_ble_eq_true rfl) [0, 1, 2, 3, 4, 5, 6, 7, 8, 9, 10, 11, 12, 13, 14] [] rfl rfl rfl rfl (by decide) dL_law_336 (fun r w1 H locs hq hw => ?_)
  obtain ⟨rfl, rfl⟩ := hq
  have hw : kW γ A [] s H locs := hw
  refine W.eq (g2 := F0 m 339 ls [.int 0, .int 0]) rfl ?_
  refine lv_icmp_eq (tgt := 1370) hx hb dL_law_339 (by decide) (fun _ => ?_) (fun h => absurd (by decide) h)
  exact law_end hC hr hlocks hX hbl hbA hAs hl9 _ _ (kW.sub hw [] rfl rfl) (by decide) (by decide) _ (lv_sub hl [0, 4] rfl)

set_option maxHeartbeats 4000000 in
set_option maxRecDepth 100000 in
theorem lc_2 {γ : kΓ} {l : Launch} {p : Program} {e : Env} {s : State} {m : MethodId} {below : List Frame} {meth : Method} {c : Code} {A : Nat → Prop} {b : Nat} {xs : Nat → Int32} (hC : kC γ p s m [Value.ref b].toArray c code 7 RL A) (hr : meth.sig.returnType = ret) (hlocks : meth.locks = false) (hX : va_X b 7 xs s s.heap) (hbl : b < s.heap.size) (hbA : ¬ A b) (hAs : ∀ q, A q → s.heap.size ≤ q) (hl9 : l.stackTraces = false) (x : Nat) (x0 : Nat) (x1 : Nat) (x2 : Nat) (x3 : Nat) (x4 : Nat) (x5 : Nat) (x6 : Nat) (x7 : Nat) (x8 : Nat) (x9 : Nat) (x10 : Nat) (z : Nat) (z2 : Nat) (z10 : Nat) (z11 : Nat) (z12 : Nat) (z13 : Nat) (z14 : Nat) (z15 : Nat) (z16 : Nat) (z17 : Nat) (z18 : Nat) (z19 : Nat) (z22 : Nat) (z23 : Nat) (z24 : Nat) (z25 : Nat) (z26 : Nat) (z27 : Nat) (z28 : Nat) (z29 : Nat) (z30 : Nat) (z31 : Nat) (z32 : Nat) (z33 : Nat) (z36 : Nat) (z37 : Nat) (z38 : Nat) (z39 : Nat) (z40 : Nat) (z41 : Nat) (z42 : Nat) (z43 : Nat) (z44 : Nat) (z45 : Nat) (z46 : Nat) (z47 : Nat) (z48 : Nat) (z55 : Nat) (z56 : Nat) (z59 : Nat) (z60 : Nat) (z61 : Nat) (x0g : Nat) (x8n : Nat) (fn : Nat → Int32) (x2s : Nat) (x2y : Nat) (x2q : Nat) (fx2y : Nat → Int32) (ou : Nat) (H : Heap) (locs : List Loc) (hw : kW γ A [(x, .inr (10, [.ref x0, .ref x1, .ref x2, .ref x3, .ref x4, .ref x5, .ref x6, .ref x7, .ref x8, .ref x9, .ref x10])), (z, .inr (11, [.int 0, .int 0, .ref z2, .int 0, .int 0, .int 0, .int 0, .long 0, .int 0, .int 0, .ref z10, .ref z11, .ref z12, .ref z13, .ref z14, .ref z15, .ref z16, .ref z17, .ref z18, .ref z19, .int 0, .int 0, .ref z22, .ref z23, .ref z24, .ref z25, .ref z26, .ref z27, .ref z28, .ref z29, .ref z30, .ref z31, .ref z32, .ref z33, .int 0, .long 0, .ref z36, .ref z37, .ref z38, .ref z39, .ref z40, .ref z41, .ref z42, .ref z43, .ref z44, .ref z45, .ref z46, .ref z47, .ref z48, .int 0, .int 10, .int 0, .int 0, .int 0, .int 0, .ref z55, .ref z56, .int 0, .int 0, .ref z59, .ref z60, .ref z61, .int 0, .long 0])), (x0, .inr (8, [.ref x0g, .int 0, .int 0, .int 0, .int 0, .int 0, .long 0, .ref γ.2.2.2])), (x8, .inr (5, [.ref x0, .ref x8n, .ref x9, .int 0, .int 0])), (x8n, .inl (γ.2.1 0, 40, .inl fn)), (x2, .inr (3, [.ref x2s, .ref x2y, .ref x2q, .int 0, .int 0, .int 0])), (x2y, .inl (γ.2.1 0, 40, .inl fx2y)), (z36, .inl (γ.2.1 0, 6, .inl (fun _ => 0))), (z37, .inl (γ.2.1 0, 240, .inl (fun _ => 0))), (z38, .inl (γ.2.1 0, 240, .inl (fun _ => 0))), (z39, .inl (γ.2.1 0, 240, .inl (fun _ => 0)))] s H locs) (ls : Array Slot) (hl : lv_has ls 7 [(4, .int 0), (3, .ref ou), (2, .ref z), (1, .ref x), (0, .ref b)]) : W p l e room_1 s m [Value.ref b].toArray below meth c H locs 251 13922 (lw_Z below #[Value.ref b] s) (F0 m 344 ls []) := by
  have hx := hC.1
  have hb := hC.2.1
  refine lv_aload_n hx hb dL_law_344 rfl (lv_at hl 3 rfl) ?_
  refine k_V (wr := [(z, .inr (11, [.int 0, .int 0, .ref z2, .int 0, .int 0, .int 0, .int 0, .long 0, .int 0, .int 0, .ref z10, .ref z11, .ref z12, .ref z13, .ref z14, .ref z15, .ref z16, .ref z17, .ref z18, .ref z19, .int 0, .int 0, .ref z22, .ref z23, .ref z24, .ref z25, .ref z26, .ref z27, .ref z28, .ref z29, .ref z30, .ref z31, .ref z32, .ref z33, .int 0, .long 0, .ref z36, .ref z37, .ref z38, .ref z39, .ref z40, .ref z41, .ref z42, .ref z43, .ref z44, .ref z45, .ref z46, .ref z47, .ref z48, .int 0, .int 10, .int 0, .int 0, .int 0, .int 0, .ref z55, .ref z56, .int 0, .int 0, .ref z59, .ref z60, .ref z61, .int 0, .long 0])), (z36, .inl (γ.2.1 0, 6, .inl (fun _ => 0))), (z37, .inl (γ.2.1 0, 240, .inl (fun _ => 0))), (z38, .inl (γ.2.1 0, 240, .inl (fun _ => 0))), (z39, .inl (γ.2.1 0, 240, .inl (fun _ => 0)))]) 0 gw_660 gw_661 gw_662 gw_1 gw_663 hd_X11_years hC hw (c_X11_years γ l x x0 x1 x2 x3 x4 x5 x6 x7 x8 x9 x10 x0g x8n fn x2s x2y x2q fx2y) ⟨by decide, by decide⟩ ⟨by decide, by decide⟩ hl.1 rfl 0 rfl rfl rfl (Nat.le_of_ble_eq_true rfl) [0, 2, 3, 4, 5, 6] [1, 7, 8, 9, 10] rfl rfl rfl rfl (by decide) dL_law_345 (fun r w1 H locs hq hw => ?_)
  obtain ⟨rfl, rfl⟩ := hq
  have hw : kW γ A [(z, .inr (11, [.int 0, .int 0, .ref z2, .int 0, .int 0, .int 0, .int 0, .long 0, .int 0, .int 0, .ref z10, .ref z11, .ref z12, .ref z13, .ref z14, .ref z15, .ref z16, .ref z17, .ref z18, .ref z19, .int 0, .int 0, .ref z22, .ref z23, .ref z24, .ref z25, .ref z26, .ref z27, .ref z28, .ref z29, .ref z30, .ref z31, .ref z32, .ref z33, .int 0, .long 0, .ref z36, .ref z37, .ref z38, .ref z39, .ref z40, .ref z41, .ref z42, .ref z43, .ref z44, .ref z45, .ref z46, .ref z47, .ref z48, .int 0, .int 10, .int 0, .int 0, .int 0, .int 0, .ref z55, .ref z56, .int 0, .int 0, .ref z59, .ref z60, .ref z61, .int 0, .long 0])), (z36, .inl (γ.2.1 0, 6, .inl (fun _ => 0))), (z37, .inl (γ.2.1 0, 240, .inl (fun _ => 0))), (z38, .inl (γ.2.1 0, 240, .inl (fun _ => 0))), (z39, .inl (γ.2.1 0, 240, .inl (fun _ => 0)))] s H locs := hw
  refine W.eq (g2 := F0 m 348 ls [.int 0]) rfl ?_
  refine lv_aload_n hx hb dL_law_348 rfl (lv_at hl 2 rfl) ?_
  refine k_V (wr := []) 0 gw_1533 gw_1534 gw_1535 gw_15 gw_1536 hd_X12_years hC hw (c_X12_years γ l z z2 z10 z11 z12 z13 z14 z15 z16 z17 z18 z19 z22 z23 z24 z25 z26 z27 z28 z29 z30 z31 z32 z33 z36 z37 z38 z39 z40 z41 z42 z43 z44 z45 z46 z47 z48 z55 z56 z59 z60 z61) ⟨by decide, by decide⟩ ⟨by decide, by decide⟩ hl.1 rfl 0 rfl rfl rfl (Nat.le_of_ble_eq_true rfl) [0, 1, 2, 3, 4] [] rfl rfl rfl rfl (by decide) dL_law_349 (fun r w1 H locs hq hw => ?_)
  obtain ⟨rfl, rfl⟩ := hq
  have hw : kW γ A [] s H locs := hw
  refine W.eq (g2 := F0 m 352 ls [.int 0, .int 0]) rfl ?_
  refine lv_icmp_eq (tgt := 1370) hx hb dL_law_352 (by decide) (fun _ => ?_) (fun h => absurd (by decide) h)
  exact law_end hC hr hlocks hX hbl hbA hAs hl9 _ _ (kW.sub hw [] rfl rfl) (by decide) (by decide) _ (lv_sub hl [0, 4] rfl)

set_option maxHeartbeats 4000000 in
set_option maxRecDepth 100000 in
theorem lc_3 {γ : kΓ} {l : Launch} {p : Program} {e : Env} {s : State} {m : MethodId} {below : List Frame} {meth : Method} {c : Code} {A : Nat → Prop} {b : Nat} {xs : Nat → Int32} (hC : kC γ p s m [Value.ref b].toArray c code 7 RL A) (hr : meth.sig.returnType = ret) (hlocks : meth.locks = false) (hX : va_X b 7 xs s s.heap) (hbl : b < s.heap.size) (hbA : ¬ A b) (hAs : ∀ q, A q → s.heap.size ≤ q) (hl9 : l.stackTraces = false) (x : Nat) (x0 : Nat) (x1 : Nat) (x2 : Nat) (x3 : Nat) (x4 : Nat) (x5 : Nat) (x6 : Nat) (x7 : Nat) (x8 : Nat) (x9 : Nat) (x10 : Nat) (z : Nat) (z2 : Nat) (z10 : Nat) (z11 : Nat) (z12 : Nat) (z13 : Nat) (z14 : Nat) (z15 : Nat) (z16 : Nat) (z17 : Nat) (z18 : Nat) (z19 : Nat) (z22 : Nat) (z23 : Nat) (z24 : Nat) (z25 : Nat) (z26 : Nat) (z27 : Nat) (z28 : Nat) (z29 : Nat) (z30 : Nat) (z31 : Nat) (z32 : Nat) (z33 : Nat) (z36 : Nat) (z37 : Nat) (z38 : Nat) (z39 : Nat) (z40 : Nat) (z41 : Nat) (z42 : Nat) (z43 : Nat) (z44 : Nat) (z45 : Nat) (z46 : Nat) (z47 : Nat) (z48 : Nat) (z55 : Nat) (z56 : Nat) (z59 : Nat) (z60 : Nat) (z61 : Nat) (x90 : Nat) (x91 : Nat) (x92 : Nat) (x93 : Nat) (x94 : Nat) (x95 : Nat) (x96 : Nat) (x97 : Nat) (fa : Nat → Int32) (ou : Nat) (ha0 : fa 0 = 0) (ha1 : fa 1 = 0) (ha2 : fa 2 = 10) (ha3 : fa 3 = 10) (ha4 : fa 4 = 3) (H : Heap) (locs : List Loc) (hw : kW γ A [(x, .inr (10, [.ref x0, .ref x1, .ref x2, .ref x3, .ref x4, .ref x5, .ref x6, .ref x7, .ref x8, .ref x9, .ref x10])), (z, .inr (11, [.int 0, .int 0, .ref z2, .int 0, .int 0, .int 0, .int 0, .long 0, .int 0, .int 0, .ref z10, .ref z11, .ref z12, .ref z13, .ref z14, .ref z15, .ref z16, .ref z17, .ref z18, .ref z19, .int 0, .int 0, .ref z22, .ref z23, .ref z24, .ref z25, .ref z26, .ref z27, .ref z28, .ref z29, .ref z30, .ref z31, .ref z32, .ref z33, .int 0, .long 0, .ref z36, .ref z37, .ref z38, .ref z39, .ref z40, .ref z41, .ref z42, .ref z43, .ref z44, .ref z45, .ref z46, .ref z47, .ref z48, .int 0, .int 10, .int 0, .int 0, .int 0, .int 0, .ref z55, .ref z56, .int 0, .int 0, .ref z59, .ref z60, .ref z61, .int 0, .long 0])), (x9, .inr (0, [.ref x90, .ref x91, .ref x92, .ref x93, .ref x94, .ref x95, .ref x96, .ref x97, .int 0, .int 0, .int 10, .int 10, .int 3, .int 0, .int 0, .int 0, .int 0, .int 0, .int 0])), (z10, .inl (γ.2.1 0, 10, .inl fa))] s H locs) (ls : Array Slot) (hl : lv_has ls 7 [(4, .int 0), (3, .ref ou), (2, .ref z), (1, .ref x), (0, .ref b)]) : W p l e room_1 s m [Value.ref b].toArray below meth c H locs 251 13922 (lw_Z below #[Value.ref b] s) (F0 m 357 ls []) := by
  have hx := hC.1
  have hb := hC.2.1
  refine lv_aload_n hx hb dL_law_357 rfl (lv_at hl 3 rfl) ?_
  refine lv_aload_n hx hb dL_law_358 rfl (lv_at hl 4 rfl) ?_
  refine lv_iload hx hb dL_law_359 (lv_at hl 0 rfl) ?_
  refine lv_iconst (v := 1) hx hb dL_law_361 (by decide) ?_
  refine lv_iadd hx hb dL_law_362 ?_
  refine lv_topi (fun x_2021 ex_2021 => ?_)
  obtain rfl : x_2021 = 1 := ex_2021.trans (by decide)
  refine va_sld hx hb hX hbl hbA hw.2.2 (k_in0 (by decide)) dL_law_363 ?_
  refine lv_topi (fun x_2022 ex_2022 => ?_)
  obtain rfl : x_2022 = xs 1 := ex_2022
  refine lv_aload_n hx hb dL_law_364 rfl (lv_at hl 4 rfl) ?_
  refine lv_iload hx hb dL_law_365 (lv_at hl 0 rfl) ?_
  refine lv_iconst (v := 2) hx hb dL_law_367 (by decide) ?_
  refine lv_iadd hx hb dL_law_368 ?_
  refine lv_topi (fun x_2023 ex_2023 => ?_)
  obtain rfl : x_2023 = 2 := ex_2023.trans (by decide)
  refine va_sld hx hb hX hbl hbA hw.2.2 (k_in0 (by decide)) dL_law_369 ?_
  refine lv_topi (fun x_2024 ex_2024 => ?_)
  obtain rfl : x_2024 = xs 2 := ex_2024
  refine k_V (wr := [(z, .inr (11, [.int 0, .int 0, .ref z2, .int 0, .int 0, .int 0, .int 0, .long 0, .int 0, .int 0, .ref z10, .ref z11, .ref z12, .ref z13, .ref z14, .ref z15, .ref z16, .ref z17, .ref z18, .ref z19, .int 0, .int 0, .ref z22, .ref z23, .ref z24, .ref z25, .ref z26, .ref z27, .ref z28, .ref z29, .ref z30, .ref z31, .ref z32, .ref z33, .int 0, .long 0, .ref z36, .ref z37, .ref z38, .ref z39, .ref z40, .ref z41, .ref z42, .ref z43, .ref z44, .ref z45, .ref z46, .ref z47, .ref z48, .int 0, .int 10, .int 0, .int 0, .int 0, .int 0, .ref z55, .ref z56, .int 0, .int 0, .ref z59, .ref z60, .ref z61, .int 0, .long 0])), (z10, .inl (γ.2.1 0, 10, .inl fa))]) 2 gw_693 gw_694 gw_695 gw_1 gw_696 hd_X11_thought hC hw (c_X11_thought γ l x x0 x1 x2 x3 x4 x5 x6 x7 x8 x9 x10 x90 x91 x92 x93 x94 x95 x96 x97 (xs 1) (xs 2)) ⟨by decide, by decide⟩ ⟨by decide, by decide⟩ hl.1 rfl 0 rfl rfl rfl (Nat.le_of_ble_eq_true rfl) [0, 2] [1, 3] rfl rfl rfl rfl (by decide) dL_law_370 (fun r w1 H locs hq hw => ?_)
  obtain ⟨rfl, rfl⟩ := hq
  have hw : kW γ A [(z, .inr (11, [.int 0, .int 0, .ref z2, .int 0, .int 0, .int 0, .int 0, .long 0, .int 0, .int 0, .ref z10, .ref z11, .ref z12, .ref z13, .ref z14, .ref z15, .ref z16, .ref z17, .ref z18, .ref z19, .int 0, .int 0, .ref z22, .ref z23, .ref z24, .ref z25, .ref z26, .ref z27, .ref z28, .ref z29, .ref z30, .ref z31, .ref z32, .ref z33, .int 0, .long 0, .ref z36, .ref z37, .ref z38, .ref z39, .ref z40, .ref z41, .ref z42, .ref z43, .ref z44, .ref z45, .ref z46, .ref z47, .ref z48, .int 0, .int 10, .int 0, .int 0, .int 0, .int 0, .ref z55, .ref z56, .int 0, .int 0, .ref z59, .ref z60, .ref z61, .int 0, .long 0])), (z10, .inl (γ.2.1 0, 10, .inl fa))] s H locs := hw
  refine W.eq (g2 := F0 m 373 ls [.int (-1)]) rfl ?_
  refine lv_aload_n hx hb dL_law_373 rfl (lv_at hl 2 rfl) ?_
  refine lv_aload_n hx hb dL_law_374 rfl (lv_at hl 4 rfl) ?_
  refine lv_iload hx hb dL_law_375 (lv_at hl 0 rfl) ?_
  refine lv_iconst (v := 1) hx hb dL_law_377 (by decide) ?_
  refine lv_iadd hx hb dL_law_378 ?_
  refine lv_topi (fun x_2025 ex_2025 => ?_)
  obtain rfl : x_2025 = 1 := ex_2025.trans (by decide)
  refine va_sld hx hb hX hbl hbA hw.2.2 (k_in0 (by decide)) dL_law_379 ?_
  refine lv_topi (fun x_2026 ex_2026 => ?_)
  obtain rfl : x_2026 = xs 1 := ex_2026
  refine lv_aload_n hx hb dL_law_380 rfl (lv_at hl 4 rfl) ?_
  refine lv_iload hx hb dL_law_381 (lv_at hl 0 rfl) ?_
  refine lv_iconst (v := 2) hx hb dL_law_383 (by decide) ?_
  refine lv_iadd hx hb dL_law_384 ?_
  refine lv_topi (fun x_2027 ex_2027 => ?_)
  obtain rfl : x_2027 = 2 := ex_2027.trans (by decide)
  refine va_sld hx hb hX hbl hbA hw.2.2 (k_in0 (by decide)) dL_law_385 ?_
  refine lv_topi (fun x_2028 ex_2028 => ?_)
  obtain rfl : x_2028 = xs 2 := ex_2028
  refine k_V (wr := []) 2 gw_1545 gw_1546 gw_1547 gw_15 gw_1548 hd_X12_thought hC hw (c_X12_thought γ l z z2 z10 z11 z12 z13 z14 z15 z16 z17 z18 z19 z22 z23 z24 z25 z26 z27 z28 z29 z30 z31 z32 z33 z36 z37 z38 z39 z40 z41 z42 z43 z44 z45 z46 z47 z48 z55 z56 z59 z60 z61 fa (xs 1) (xs 2) ha0 ha1 ha2 ha3 ha4) ⟨by decide, by decide⟩ ⟨by decide, by decide⟩ hl.1 rfl 0 rfl rfl rfl (Nat.le_of_ble_eq_true rfl) [0, 1] [] rfl rfl rfl rfl (by decide) dL_law_386 (fun r w1 H locs hq hw => ?_)
  obtain ⟨rfl, rfl⟩ := hq
  have hw : kW γ A [] s H locs := hw
  refine W.eq (g2 := F0 m 389 ls [.int (-1), .int (-1)]) rfl ?_
  refine lv_icmp_eq (tgt := 1370) hx hb dL_law_389 (by decide) (fun _ => ?_) (fun h => absurd (by decide) h)
  exact law_end hC hr hlocks hX hbl hbA hAs hl9 _ _ (kW.sub hw [] rfl rfl) (by decide) (by decide) _ (lv_sub hl [0, 4] rfl)

set_option maxHeartbeats 4000000 in
set_option maxRecDepth 100000 in
theorem lc_4 {γ : kΓ} {l : Launch} {p : Program} {e : Env} {s : State} {m : MethodId} {below : List Frame} {meth : Method} {c : Code} {A : Nat → Prop} {b : Nat} {xs : Nat → Int32} (hC : kC γ p s m [Value.ref b].toArray c code 7 RL A) (hr : meth.sig.returnType = ret) (hlocks : meth.locks = false) (hX : va_X b 7 xs s s.heap) (hbl : b < s.heap.size) (hbA : ¬ A b) (hAs : ∀ q, A q → s.heap.size ≤ q) (hl9 : l.stackTraces = false) (x : Nat) (x0 : Nat) (x1 : Nat) (x2 : Nat) (x3 : Nat) (x4 : Nat) (x5 : Nat) (x6 : Nat) (x7 : Nat) (x8 : Nat) (x9 : Nat) (x10 : Nat) (z : Nat) (z2 : Nat) (z10 : Nat) (z11 : Nat) (z12 : Nat) (z13 : Nat) (z14 : Nat) (z15 : Nat) (z16 : Nat) (z17 : Nat) (z18 : Nat) (z19 : Nat) (z22 : Nat) (z23 : Nat) (z24 : Nat) (z25 : Nat) (z26 : Nat) (z27 : Nat) (z28 : Nat) (z29 : Nat) (z30 : Nat) (z31 : Nat) (z32 : Nat) (z33 : Nat) (z36 : Nat) (z37 : Nat) (z38 : Nat) (z39 : Nat) (z40 : Nat) (z41 : Nat) (z42 : Nat) (z43 : Nat) (z44 : Nat) (z45 : Nat) (z46 : Nat) (z47 : Nat) (z48 : Nat) (z55 : Nat) (z56 : Nat) (z59 : Nat) (z60 : Nat) (z61 : Nat) (x90 : Nat) (x91 : Nat) (x92 : Nat) (x93 : Nat) (x94 : Nat) (x95 : Nat) (x96 : Nat) (x97 : Nat) (fa : Nat → Int32) (ou : Nat) (ha0 : fa 0 = 0) (ha1 : fa 1 = 0) (ha2 : fa 2 = 10) (ha3 : fa 3 = 10) (ha4 : fa 4 = 3) (H : Heap) (locs : List Loc) (hw : kW γ A [(x, .inr (10, [.ref x0, .ref x1, .ref x2, .ref x3, .ref x4, .ref x5, .ref x6, .ref x7, .ref x8, .ref x9, .ref x10])), (z, .inr (11, [.int 0, .int 0, .ref z2, .int 0, .int 0, .int 0, .int 0, .long 0, .int 0, .int 0, .ref z10, .ref z11, .ref z12, .ref z13, .ref z14, .ref z15, .ref z16, .ref z17, .ref z18, .ref z19, .int 0, .int 0, .ref z22, .ref z23, .ref z24, .ref z25, .ref z26, .ref z27, .ref z28, .ref z29, .ref z30, .ref z31, .ref z32, .ref z33, .int 0, .long 0, .ref z36, .ref z37, .ref z38, .ref z39, .ref z40, .ref z41, .ref z42, .ref z43, .ref z44, .ref z45, .ref z46, .ref z47, .ref z48, .int 0, .int 10, .int 0, .int 0, .int 0, .int 0, .ref z55, .ref z56, .int 0, .int 0, .ref z59, .ref z60, .ref z61, .int 0, .long 0])), (x9, .inr (0, [.ref x90, .ref x91, .ref x92, .ref x93, .ref x94, .ref x95, .ref x96, .ref x97, .int 0, .int 0, .int 10, .int 10, .int 3, .int 0, .int 0, .int 0, .int 0, .int 0, .int 0])), (z10, .inl (γ.2.1 0, 10, .inl fa))] s H locs) (ls : Array Slot) (hl : lv_has ls 7 [(4, .int 0), (3, .ref ou), (2, .ref z), (1, .ref x), (0, .ref b)]) : W p l e room_1 s m [Value.ref b].toArray below meth c H locs 251 13922 (lw_Z below #[Value.ref b] s) (F0 m 394 ls []) := by
  have hx := hC.1
  have hb := hC.2.1
  refine lv_aload_n hx hb dL_law_394 rfl (lv_at hl 3 rfl) ?_
  refine lv_aload_n hx hb dL_law_395 rfl (lv_at hl 4 rfl) ?_
  refine lv_iload hx hb dL_law_396 (lv_at hl 0 rfl) ?_
  refine lv_iconst (v := 1) hx hb dL_law_398 (by decide) ?_
  refine lv_iadd hx hb dL_law_399 ?_
  refine lv_topi (fun x_2029 ex_2029 => ?_)
  obtain rfl : x_2029 = 1 := ex_2029.trans (by decide)
  refine va_sld hx hb hX hbl hbA hw.2.2 (k_in0 (by decide)) dL_law_400 ?_
  refine lv_topi (fun x_2030 ex_2030 => ?_)
  obtain rfl : x_2030 = xs 1 := ex_2030
  refine lv_aload_n hx hb dL_law_401 rfl (lv_at hl 4 rfl) ?_
  refine lv_iload hx hb dL_law_402 (lv_at hl 0 rfl) ?_
  refine lv_iconst (v := 2) hx hb dL_law_404 (by decide) ?_
  refine lv_iadd hx hb dL_law_405 ?_
  refine lv_topi (fun x_2031 ex_2031 => ?_)
  obtain rfl : x_2031 = 2 := ex_2031.trans (by decide)
  refine va_sld hx hb hX hbl hbA hw.2.2 (k_in0 (by decide)) dL_law_406 ?_
  refine lv_topi (fun x_2032 ex_2032 => ?_)
  obtain rfl : x_2032 = xs 2 := ex_2032
  refine k_V (wr := [(z, .inr (11, [.int 0, .int 0, .ref z2, .int 0, .int 0, .int 0, .int 0, .long 0, .int 0, .int 0, .ref z10, .ref z11, .ref z12, .ref z13, .ref z14, .ref z15, .ref z16, .ref z17, .ref z18, .ref z19, .int 0, .int 0, .ref z22, .ref z23, .ref z24, .ref z25, .ref z26, .ref z27, .ref z28, .ref z29, .ref z30, .ref z31, .ref z32, .ref z33, .int 0, .long 0, .ref z36, .ref z37, .ref z38, .ref z39, .ref z40, .ref z41, .ref z42, .ref z43, .ref z44, .ref z45, .ref z46, .ref z47, .ref z48, .int 0, .int 10, .int 0, .int 0, .int 0, .int 0, .ref z55, .ref z56, .int 0, .int 0, .ref z59, .ref z60, .ref z61, .int 0, .long 0])), (z10, .inl (γ.2.1 0, 10, .inl fa))]) 2 gw_701 gw_702 gw_703 gw_1 gw_704 hd_X11_tenant hC hw (c_X11_tenant γ l x x0 x1 x2 x3 x4 x5 x6 x7 x8 x9 x10 x90 x91 x92 x93 x94 x95 x96 x97 (xs 1) (xs 2)) ⟨by decide, by decide⟩ ⟨by decide, by decide⟩ hl.1 rfl 0 rfl rfl rfl (Nat.le_of_ble_eq_true rfl) [0, 2] [1, 3] rfl rfl rfl rfl (by decide) dL_law_407 (fun r w1 H locs hq hw => ?_)
  obtain ⟨rfl, rfl⟩ := hq
  have hw : kW γ A [(z, .inr (11, [.int 0, .int 0, .ref z2, .int 0, .int 0, .int 0, .int 0, .long 0, .int 0, .int 0, .ref z10, .ref z11, .ref z12, .ref z13, .ref z14, .ref z15, .ref z16, .ref z17, .ref z18, .ref z19, .int 0, .int 0, .ref z22, .ref z23, .ref z24, .ref z25, .ref z26, .ref z27, .ref z28, .ref z29, .ref z30, .ref z31, .ref z32, .ref z33, .int 0, .long 0, .ref z36, .ref z37, .ref z38, .ref z39, .ref z40, .ref z41, .ref z42, .ref z43, .ref z44, .ref z45, .ref z46, .ref z47, .ref z48, .int 0, .int 10, .int 0, .int 0, .int 0, .int 0, .ref z55, .ref z56, .int 0, .int 0, .ref z59, .ref z60, .ref z61, .int 0, .long 0])), (z10, .inl (γ.2.1 0, 10, .inl fa))] s H locs := hw
  refine W.eq (g2 := F0 m 410 ls [.int (-1000)]) rfl ?_
  refine lv_aload_n hx hb dL_law_410 rfl (lv_at hl 2 rfl) ?_
  refine lv_aload_n hx hb dL_law_411 rfl (lv_at hl 4 rfl) ?_
  refine lv_iload hx hb dL_law_412 (lv_at hl 0 rfl) ?_
  refine lv_iconst (v := 1) hx hb dL_law_414 (by decide) ?_
  refine lv_iadd hx hb dL_law_415 ?_
  refine lv_topi (fun x_2033 ex_2033 => ?_)
  obtain rfl : x_2033 = 1 := ex_2033.trans (by decide)
  refine va_sld hx hb hX hbl hbA hw.2.2 (k_in0 (by decide)) dL_law_416 ?_
  refine lv_topi (fun x_2034 ex_2034 => ?_)
  obtain rfl : x_2034 = xs 1 := ex_2034
  refine lv_aload_n hx hb dL_law_417 rfl (lv_at hl 4 rfl) ?_
  refine lv_iload hx hb dL_law_418 (lv_at hl 0 rfl) ?_
  refine lv_iconst (v := 2) hx hb dL_law_420 (by decide) ?_
  refine lv_iadd hx hb dL_law_421 ?_
  refine lv_topi (fun x_2035 ex_2035 => ?_)
  obtain rfl : x_2035 = 2 := ex_2035.trans (by decide)
  refine va_sld hx hb hX hbl hbA hw.2.2 (k_in0 (by decide)) dL_law_422 ?_
  refine lv_topi (fun x_2036 ex_2036 => ?_)
  obtain rfl : x_2036 = xs 2 := ex_2036
  refine k_V (wr := []) 2 gw_1553 gw_1554 gw_1555 gw_15 gw_1556 hd_X12_tenant hC hw (c_X12_tenant γ l z z2 z10 z11 z12 z13 z14 z15 z16 z17 z18 z19 z22 z23 z24 z25 z26 z27 z28 z29 z30 z31 z32 z33 z36 z37 z38 z39 z40 z41 z42 z43 z44 z45 z46 z47 z48 z55 z56 z59 z60 z61 fa (xs 1) (xs 2) ha0 ha1 ha2 ha3 ha4) ⟨by decide, by decide⟩ ⟨by decide, by decide⟩ hl.1 rfl 0 rfl rfl rfl (Nat.le_of_ble_eq_true rfl) [0, 1] [] rfl rfl rfl rfl (by decide) dL_law_423 (fun r w1 H locs hq hw => ?_)
  obtain ⟨rfl, rfl⟩ := hq
  have hw : kW γ A [] s H locs := hw
  refine W.eq (g2 := F0 m 426 ls [.int (-1000), .int (-1000)]) rfl ?_
  refine lv_icmp_eq (tgt := 1370) hx hb dL_law_426 (by decide) (fun _ => ?_) (fun h => absurd (by decide) h)
  exact law_end hC hr hlocks hX hbl hbA hAs hl9 _ _ (kW.sub hw [] rfl rfl) (by decide) (by decide) _ (lv_sub hl [0, 4] rfl)

set_option maxHeartbeats 4000000 in
set_option maxRecDepth 100000 in
theorem lc_5 {γ : kΓ} {l : Launch} {p : Program} {e : Env} {s : State} {m : MethodId} {below : List Frame} {meth : Method} {c : Code} {A : Nat → Prop} {b : Nat} {xs : Nat → Int32} (hC : kC γ p s m [Value.ref b].toArray c code 7 RL A) (hr : meth.sig.returnType = ret) (hlocks : meth.locks = false) (hX : va_X b 7 xs s s.heap) (hbl : b < s.heap.size) (hbA : ¬ A b) (hAs : ∀ q, A q → s.heap.size ≤ q) (hl9 : l.stackTraces = false) (x : Nat) (x0 : Nat) (x1 : Nat) (x2 : Nat) (x3 : Nat) (x4 : Nat) (x5 : Nat) (x6 : Nat) (x7 : Nat) (x8 : Nat) (x9 : Nat) (x10 : Nat) (z : Nat) (z2 : Nat) (z10 : Nat) (z11 : Nat) (z12 : Nat) (z13 : Nat) (z14 : Nat) (z15 : Nat) (z16 : Nat) (z17 : Nat) (z18 : Nat) (z19 : Nat) (z22 : Nat) (z23 : Nat) (z24 : Nat) (z25 : Nat) (z26 : Nat) (z27 : Nat) (z28 : Nat) (z29 : Nat) (z30 : Nat) (z31 : Nat) (z32 : Nat) (z33 : Nat) (z36 : Nat) (z37 : Nat) (z38 : Nat) (z39 : Nat) (z40 : Nat) (z41 : Nat) (z42 : Nat) (z43 : Nat) (z44 : Nat) (z45 : Nat) (z46 : Nat) (z47 : Nat) (z48 : Nat) (z55 : Nat) (z56 : Nat) (z59 : Nat) (z60 : Nat) (z61 : Nat) (x90 : Nat) (x91 : Nat) (x92 : Nat) (x93 : Nat) (x94 : Nat) (x95 : Nat) (x96 : Nat) (x97 : Nat) (fa : Nat → Int32) (ou : Nat) (ha0 : fa 0 = 0) (ha1 : fa 1 = 0) (ha2 : fa 2 = 10) (ha3 : fa 3 = 10) (ha4 : fa 4 = 3) (H : Heap) (locs : List Loc) (hw : kW γ A [(x, .inr (10, [.ref x0, .ref x1, .ref x2, .ref x3, .ref x4, .ref x5, .ref x6, .ref x7, .ref x8, .ref x9, .ref x10])), (z, .inr (11, [.int 0, .int 0, .ref z2, .int 0, .int 0, .int 0, .int 0, .long 0, .int 0, .int 0, .ref z10, .ref z11, .ref z12, .ref z13, .ref z14, .ref z15, .ref z16, .ref z17, .ref z18, .ref z19, .int 0, .int 0, .ref z22, .ref z23, .ref z24, .ref z25, .ref z26, .ref z27, .ref z28, .ref z29, .ref z30, .ref z31, .ref z32, .ref z33, .int 0, .long 0, .ref z36, .ref z37, .ref z38, .ref z39, .ref z40, .ref z41, .ref z42, .ref z43, .ref z44, .ref z45, .ref z46, .ref z47, .ref z48, .int 0, .int 10, .int 0, .int 0, .int 0, .int 0, .ref z55, .ref z56, .int 0, .int 0, .ref z59, .ref z60, .ref z61, .int 0, .long 0])), (x9, .inr (0, [.ref x90, .ref x91, .ref x92, .ref x93, .ref x94, .ref x95, .ref x96, .ref x97, .int 0, .int 0, .int 10, .int 10, .int 3, .int 0, .int 0, .int 0, .int 0, .int 0, .int 0])), (z10, .inl (γ.2.1 0, 10, .inl fa))] s H locs) (ls : Array Slot) (hl : lv_has ls 7 [(4, .int 0), (3, .ref ou), (2, .ref z), (1, .ref x), (0, .ref b)]) : W p l e room_1 s m [Value.ref b].toArray below meth c H locs 251 13922 (lw_Z below #[Value.ref b] s) (F0 m 431 ls []) := by
  have hx := hC.1
  have hb := hC.2.1
  refine lv_aload_n hx hb dL_law_431 rfl (lv_at hl 3 rfl) ?_
  refine lv_aload_n hx hb dL_law_432 rfl (lv_at hl 4 rfl) ?_
  refine lv_iload hx hb dL_law_433 (lv_at hl 0 rfl) ?_
  refine lv_iconst (v := 1) hx hb dL_law_435 (by decide) ?_
  refine lv_iadd hx hb dL_law_436 ?_
  refine lv_topi (fun x_2037 ex_2037 => ?_)
  obtain rfl : x_2037 = 1 := ex_2037.trans (by decide)
  refine va_sld hx hb hX hbl hbA hw.2.2 (k_in0 (by decide)) dL_law_437 ?_
  refine lv_topi (fun x_2038 ex_2038 => ?_)
  obtain rfl : x_2038 = xs 1 := ex_2038
  refine lv_aload_n hx hb dL_law_438 rfl (lv_at hl 4 rfl) ?_
  refine lv_iload hx hb dL_law_439 (lv_at hl 0 rfl) ?_
  refine lv_iconst (v := 2) hx hb dL_law_441 (by decide) ?_
  refine lv_iadd hx hb dL_law_442 ?_
  refine lv_topi (fun x_2039 ex_2039 => ?_)
  obtain rfl : x_2039 = 2 := ex_2039.trans (by decide)
  refine va_sld hx hb hX hbl hbA hw.2.2 (k_in0 (by decide)) dL_law_443 ?_
  refine lv_topi (fun x_2040 ex_2040 => ?_)
  obtain rfl : x_2040 = xs 2 := ex_2040
  refine k_V (wr := [(z, .inr (11, [.int 0, .int 0, .ref z2, .int 0, .int 0, .int 0, .int 0, .long 0, .int 0, .int 0, .ref z10, .ref z11, .ref z12, .ref z13, .ref z14, .ref z15, .ref z16, .ref z17, .ref z18, .ref z19, .int 0, .int 0, .ref z22, .ref z23, .ref z24, .ref z25, .ref z26, .ref z27, .ref z28, .ref z29, .ref z30, .ref z31, .ref z32, .ref z33, .int 0, .long 0, .ref z36, .ref z37, .ref z38, .ref z39, .ref z40, .ref z41, .ref z42, .ref z43, .ref z44, .ref z45, .ref z46, .ref z47, .ref z48, .int 0, .int 10, .int 0, .int 0, .int 0, .int 0, .ref z55, .ref z56, .int 0, .int 0, .ref z59, .ref z60, .ref z61, .int 0, .long 0])), (z10, .inl (γ.2.1 0, 10, .inl fa))]) 2 gw_727 gw_728 gw_729 gw_1 gw_730 hd_X11_keeps hC hw (c_X11_keeps γ l x x0 x1 x2 x3 x4 x5 x6 x7 x8 x9 x10 x90 x91 x92 x93 x94 x95 x96 x97 (xs 1) (xs 2)) ⟨by decide, by decide⟩ ⟨by decide, by decide⟩ hl.1 rfl 0 rfl rfl rfl (Nat.le_of_ble_eq_true rfl) [0, 2] [1, 3] rfl rfl rfl rfl (by decide) dL_law_444 (fun r w1 H locs hq hw => ?_)
  obtain ⟨rfl, rfl⟩ := hq
  have hw : kW γ A [(z, .inr (11, [.int 0, .int 0, .ref z2, .int 0, .int 0, .int 0, .int 0, .long 0, .int 0, .int 0, .ref z10, .ref z11, .ref z12, .ref z13, .ref z14, .ref z15, .ref z16, .ref z17, .ref z18, .ref z19, .int 0, .int 0, .ref z22, .ref z23, .ref z24, .ref z25, .ref z26, .ref z27, .ref z28, .ref z29, .ref z30, .ref z31, .ref z32, .ref z33, .int 0, .long 0, .ref z36, .ref z37, .ref z38, .ref z39, .ref z40, .ref z41, .ref z42, .ref z43, .ref z44, .ref z45, .ref z46, .ref z47, .ref z48, .int 0, .int 10, .int 0, .int 0, .int 0, .int 0, .ref z55, .ref z56, .int 0, .int 0, .ref z59, .ref z60, .ref z61, .int 0, .long 0])), (z10, .inl (γ.2.1 0, 10, .inl fa))] s H locs := hw
  refine W.eq (g2 := F0 m 447 ls [.int (-1)]) rfl ?_
  refine lv_aload_n hx hb dL_law_447 rfl (lv_at hl 2 rfl) ?_
  refine lv_aload_n hx hb dL_law_448 rfl (lv_at hl 4 rfl) ?_
  refine lv_iload hx hb dL_law_449 (lv_at hl 0 rfl) ?_
  refine lv_iconst (v := 1) hx hb dL_law_451 (by decide) ?_
  refine lv_iadd hx hb dL_law_452 ?_
  refine lv_topi (fun x_2041 ex_2041 => ?_)
  obtain rfl : x_2041 = 1 := ex_2041.trans (by decide)
  refine va_sld hx hb hX hbl hbA hw.2.2 (k_in0 (by decide)) dL_law_453 ?_
  refine lv_topi (fun x_2042 ex_2042 => ?_)
  obtain rfl : x_2042 = xs 1 := ex_2042
  refine lv_aload_n hx hb dL_law_454 rfl (lv_at hl 4 rfl) ?_
  refine lv_iload hx hb dL_law_455 (lv_at hl 0 rfl) ?_
  refine lv_iconst (v := 2) hx hb dL_law_457 (by decide) ?_
  refine lv_iadd hx hb dL_law_458 ?_
  refine lv_topi (fun x_2043 ex_2043 => ?_)
  obtain rfl : x_2043 = 2 := ex_2043.trans (by decide)
  refine va_sld hx hb hX hbl hbA hw.2.2 (k_in0 (by decide)) dL_law_459 ?_
  refine lv_topi (fun x_2044 ex_2044 => ?_)
  obtain rfl : x_2044 = xs 2 := ex_2044
  refine k_V (wr := []) 2 gw_1581 gw_1582 gw_1583 gw_15 gw_1584 hd_X12_keeps hC hw (c_X12_keeps γ l z z2 z10 z11 z12 z13 z14 z15 z16 z17 z18 z19 z22 z23 z24 z25 z26 z27 z28 z29 z30 z31 z32 z33 z36 z37 z38 z39 z40 z41 z42 z43 z44 z45 z46 z47 z48 z55 z56 z59 z60 z61 fa (xs 1) (xs 2) ha0 ha1 ha2 ha3 ha4) ⟨by decide, by decide⟩ ⟨by decide, by decide⟩ hl.1 rfl 0 rfl rfl rfl (Nat.le_of_ble_eq_true rfl) [0, 1] [] rfl rfl rfl rfl (by decide) dL_law_460 (fun r w1 H locs hq hw => ?_)
  obtain ⟨rfl, rfl⟩ := hq
  have hw : kW γ A [] s H locs := hw
  refine W.eq (g2 := F0 m 463 ls [.int (-1), .int (-1)]) rfl ?_
  refine lv_icmp_eq (tgt := 1370) hx hb dL_law_463 (by decide) (fun _ => ?_) (fun h => absurd (by decide) h)
  exact law_end hC hr hlocks hX hbl hbA hAs hl9 _ _ (kW.sub hw [] rfl rfl) (by decide) (by decide) _ (lv_sub hl [0, 4] rfl)

set_option maxHeartbeats 4000000 in
set_option maxRecDepth 100000 in
theorem lc_6 {γ : kΓ} {l : Launch} {p : Program} {e : Env} {s : State} {m : MethodId} {below : List Frame} {meth : Method} {c : Code} {A : Nat → Prop} {b : Nat} {xs : Nat → Int32} (hC : kC γ p s m [Value.ref b].toArray c code 7 RL A) (hr : meth.sig.returnType = ret) (hlocks : meth.locks = false) (hX : va_X b 7 xs s s.heap) (hbl : b < s.heap.size) (hbA : ¬ A b) (hAs : ∀ q, A q → s.heap.size ≤ q) (hl9 : l.stackTraces = false) (x : Nat) (x0 : Nat) (x1 : Nat) (x2 : Nat) (x3 : Nat) (x4 : Nat) (x5 : Nat) (x6 : Nat) (x7 : Nat) (x8 : Nat) (x9 : Nat) (x10 : Nat) (z : Nat) (z2 : Nat) (z10 : Nat) (z11 : Nat) (z12 : Nat) (z13 : Nat) (z14 : Nat) (z15 : Nat) (z16 : Nat) (z17 : Nat) (z18 : Nat) (z19 : Nat) (z22 : Nat) (z23 : Nat) (z24 : Nat) (z25 : Nat) (z26 : Nat) (z27 : Nat) (z28 : Nat) (z29 : Nat) (z30 : Nat) (z31 : Nat) (z32 : Nat) (z33 : Nat) (z36 : Nat) (z37 : Nat) (z38 : Nat) (z39 : Nat) (z40 : Nat) (z41 : Nat) (z42 : Nat) (z43 : Nat) (z44 : Nat) (z45 : Nat) (z46 : Nat) (z47 : Nat) (z48 : Nat) (z55 : Nat) (z56 : Nat) (z59 : Nat) (z60 : Nat) (z61 : Nat) (x90 : Nat) (x91 : Nat) (x92 : Nat) (x93 : Nat) (x94 : Nat) (x95 : Nat) (x96 : Nat) (x97 : Nat) (fa : Nat → Int32) (ou : Nat) (ha0 : fa 0 = 0) (ha1 : fa 1 = 0) (ha2 : fa 2 = 10) (ha3 : fa 3 = 10) (ha4 : fa 4 = 3) (H : Heap) (locs : List Loc) (hw : kW γ A [(x, .inr (10, [.ref x0, .ref x1, .ref x2, .ref x3, .ref x4, .ref x5, .ref x6, .ref x7, .ref x8, .ref x9, .ref x10])), (z, .inr (11, [.int 0, .int 0, .ref z2, .int 0, .int 0, .int 0, .int 0, .long 0, .int 0, .int 0, .ref z10, .ref z11, .ref z12, .ref z13, .ref z14, .ref z15, .ref z16, .ref z17, .ref z18, .ref z19, .int 0, .int 0, .ref z22, .ref z23, .ref z24, .ref z25, .ref z26, .ref z27, .ref z28, .ref z29, .ref z30, .ref z31, .ref z32, .ref z33, .int 0, .long 0, .ref z36, .ref z37, .ref z38, .ref z39, .ref z40, .ref z41, .ref z42, .ref z43, .ref z44, .ref z45, .ref z46, .ref z47, .ref z48, .int 0, .int 10, .int 0, .int 0, .int 0, .int 0, .ref z55, .ref z56, .int 0, .int 0, .ref z59, .ref z60, .ref z61, .int 0, .long 0])), (x9, .inr (0, [.ref x90, .ref x91, .ref x92, .ref x93, .ref x94, .ref x95, .ref x96, .ref x97, .int 0, .int 0, .int 10, .int 10, .int 3, .int 0, .int 0, .int 0, .int 0, .int 0, .int 0])), (z10, .inl (γ.2.1 0, 10, .inl fa))] s H locs) (ls : Array Slot) (hl : lv_has ls 7 [(4, .int 0), (3, .ref ou), (2, .ref z), (1, .ref x), (0, .ref b)]) : W p l e room_1 s m [Value.ref b].toArray below meth c H locs 251 13922 (lw_Z below #[Value.ref b] s) (F0 m 468 ls []) := by
  have hx := hC.1
  have hb := hC.2.1
  refine lv_aload_n hx hb dL_law_468 rfl (lv_at hl 3 rfl) ?_
  refine lv_aload_n hx hb dL_law_469 rfl (lv_at hl 4 rfl) ?_
  refine lv_iload hx hb dL_law_470 (lv_at hl 0 rfl) ?_
  refine lv_iconst (v := 1) hx hb dL_law_472 (by decide) ?_
  refine lv_iadd hx hb dL_law_473 ?_
  refine lv_topi (fun x_2045 ex_2045 => ?_)
  obtain rfl : x_2045 = 1 := ex_2045.trans (by decide)
  refine va_sld hx hb hX hbl hbA hw.2.2 (k_in0 (by decide)) dL_law_474 ?_
  refine lv_topi (fun x_2046 ex_2046 => ?_)
  obtain rfl : x_2046 = xs 1 := ex_2046
  refine lv_aload_n hx hb dL_law_475 rfl (lv_at hl 4 rfl) ?_
  refine lv_iload hx hb dL_law_476 (lv_at hl 0 rfl) ?_
  refine lv_iconst (v := 2) hx hb dL_law_478 (by decide) ?_
  refine lv_iadd hx hb dL_law_479 ?_
  refine lv_topi (fun x_2047 ex_2047 => ?_)
  obtain rfl : x_2047 = 2 := ex_2047.trans (by decide)
  refine va_sld hx hb hX hbl hbA hw.2.2 (k_in0 (by decide)) dL_law_480 ?_
  refine lv_topi (fun x_2048 ex_2048 => ?_)
  obtain rfl : x_2048 = xs 2 := ex_2048
  refine k_V (wr := [(z, .inr (11, [.int 0, .int 0, .ref z2, .int 0, .int 0, .int 0, .int 0, .long 0, .int 0, .int 0, .ref z10, .ref z11, .ref z12, .ref z13, .ref z14, .ref z15, .ref z16, .ref z17, .ref z18, .ref z19, .int 0, .int 0, .ref z22, .ref z23, .ref z24, .ref z25, .ref z26, .ref z27, .ref z28, .ref z29, .ref z30, .ref z31, .ref z32, .ref z33, .int 0, .long 0, .ref z36, .ref z37, .ref z38, .ref z39, .ref z40, .ref z41, .ref z42, .ref z43, .ref z44, .ref z45, .ref z46, .ref z47, .ref z48, .int 0, .int 10, .int 0, .int 0, .int 0, .int 0, .ref z55, .ref z56, .int 0, .int 0, .ref z59, .ref z60, .ref z61, .int 0, .long 0])), (z10, .inl (γ.2.1 0, 10, .inl fa))]) 2 gw_747 gw_748 gw_749 gw_1 gw_750 hd_X11_think hC hw (c_X11_think γ l x x0 x1 x2 x3 x4 x5 x6 x7 x8 x9 x10 x90 x91 x92 x93 x94 x95 x96 x97 (xs 1) (xs 2)) ⟨by decide, by decide⟩ ⟨by decide, by decide⟩ hl.1 rfl 0 rfl rfl rfl (Nat.le_of_ble_eq_true rfl) [0, 2] [1, 3] rfl rfl rfl rfl (by decide) dL_law_481 (fun r w1 H locs hq hw => ?_)
  obtain ⟨rfl, rfl⟩ := hq
  have hw : kW γ A [(z, .inr (11, [.int 0, .int 0, .ref z2, .int 0, .int 0, .int 0, .int 0, .long 0, .int 0, .int 0, .ref z10, .ref z11, .ref z12, .ref z13, .ref z14, .ref z15, .ref z16, .ref z17, .ref z18, .ref z19, .int 0, .int 0, .ref z22, .ref z23, .ref z24, .ref z25, .ref z26, .ref z27, .ref z28, .ref z29, .ref z30, .ref z31, .ref z32, .ref z33, .int 0, .long 0, .ref z36, .ref z37, .ref z38, .ref z39, .ref z40, .ref z41, .ref z42, .ref z43, .ref z44, .ref z45, .ref z46, .ref z47, .ref z48, .int 0, .int 10, .int 0, .int 0, .int 0, .int 0, .ref z55, .ref z56, .int 0, .int 0, .ref z59, .ref z60, .ref z61, .int 0, .long 0])), (z10, .inl (γ.2.1 0, 10, .inl fa))] s H locs := hw
  refine W.eq (g2 := F0 m 484 ls [.int (-1)]) rfl ?_
  refine lv_aload_n hx hb dL_law_484 rfl (lv_at hl 2 rfl) ?_
  refine lv_aload_n hx hb dL_law_485 rfl (lv_at hl 4 rfl) ?_
  refine lv_iload hx hb dL_law_486 (lv_at hl 0 rfl) ?_
  refine lv_iconst (v := 1) hx hb dL_law_488 (by decide) ?_
  refine lv_iadd hx hb dL_law_489 ?_
  refine lv_topi (fun x_2049 ex_2049 => ?_)
  obtain rfl : x_2049 = 1 := ex_2049.trans (by decide)
  refine va_sld hx hb hX hbl hbA hw.2.2 (k_in0 (by decide)) dL_law_490 ?_
  refine lv_topi (fun x_2050 ex_2050 => ?_)
  obtain rfl : x_2050 = xs 1 := ex_2050
  refine lv_aload_n hx hb dL_law_491 rfl (lv_at hl 4 rfl) ?_
  refine lv_iload hx hb dL_law_492 (lv_at hl 0 rfl) ?_
  refine lv_iconst (v := 2) hx hb dL_law_494 (by decide) ?_
  refine lv_iadd hx hb dL_law_495 ?_
  refine lv_topi (fun x_2051 ex_2051 => ?_)
  obtain rfl : x_2051 = 2 := ex_2051.trans (by decide)
  refine va_sld hx hb hX hbl hbA hw.2.2 (k_in0 (by decide)) dL_law_496 ?_
  refine lv_topi (fun x_2052 ex_2052 => ?_)
  obtain rfl : x_2052 = xs 2 := ex_2052
  refine k_V (wr := []) 2 gw_1585 gw_1586 gw_1587 gw_15 gw_1588 hd_X12_think hC hw (c_X12_think γ l z z2 z10 z11 z12 z13 z14 z15 z16 z17 z18 z19 z22 z23 z24 z25 z26 z27 z28 z29 z30 z31 z32 z33 z36 z37 z38 z39 z40 z41 z42 z43 z44 z45 z46 z47 z48 z55 z56 z59 z60 z61 fa (xs 1) (xs 2) ha0 ha1 ha2 ha3 ha4) ⟨by decide, by decide⟩ ⟨by decide, by decide⟩ hl.1 rfl 0 rfl rfl rfl (Nat.le_of_ble_eq_true rfl) [0, 1] [] rfl rfl rfl rfl (by decide) dL_law_497 (fun r w1 H locs hq hw => ?_)
  obtain ⟨rfl, rfl⟩ := hq
  have hw : kW γ A [] s H locs := hw
  refine W.eq (g2 := F0 m 500 ls [.int (-1), .int (-1)]) rfl ?_
  refine lv_icmp_eq (tgt := 1370) hx hb dL_law_500 (by decide) (fun _ => ?_) (fun h => absurd (by decide) h)
  exact law_end hC hr hlocks hX hbl hbA hAs hl9 _ _ (kW.sub hw [] rfl rfl) (by decide) (by decide) _ (lv_sub hl [0, 4] rfl)

set_option maxHeartbeats 4000000 in
set_option maxRecDepth 100000 in
theorem lc_7 {γ : kΓ} {l : Launch} {p : Program} {e : Env} {s : State} {m : MethodId} {below : List Frame} {meth : Method} {c : Code} {A : Nat → Prop} {b : Nat} {xs : Nat → Int32} (hC : kC γ p s m [Value.ref b].toArray c code 7 RL A) (hr : meth.sig.returnType = ret) (hlocks : meth.locks = false) (hX : va_X b 7 xs s s.heap) (hbl : b < s.heap.size) (hbA : ¬ A b) (hAs : ∀ q, A q → s.heap.size ≤ q) (hl9 : l.stackTraces = false) (x : Nat) (x0 : Nat) (x1 : Nat) (x2 : Nat) (x3 : Nat) (x4 : Nat) (x5 : Nat) (x6 : Nat) (x7 : Nat) (x8 : Nat) (x9 : Nat) (x10 : Nat) (z : Nat) (z2 : Nat) (z10 : Nat) (z11 : Nat) (z12 : Nat) (z13 : Nat) (z14 : Nat) (z15 : Nat) (z16 : Nat) (z17 : Nat) (z18 : Nat) (z19 : Nat) (z22 : Nat) (z23 : Nat) (z24 : Nat) (z25 : Nat) (z26 : Nat) (z27 : Nat) (z28 : Nat) (z29 : Nat) (z30 : Nat) (z31 : Nat) (z32 : Nat) (z33 : Nat) (z36 : Nat) (z37 : Nat) (z38 : Nat) (z39 : Nat) (z40 : Nat) (z41 : Nat) (z42 : Nat) (z43 : Nat) (z44 : Nat) (z45 : Nat) (z46 : Nat) (z47 : Nat) (z48 : Nat) (z55 : Nat) (z56 : Nat) (z59 : Nat) (z60 : Nat) (z61 : Nat) (x90 : Nat) (x91 : Nat) (x92 : Nat) (x93 : Nat) (x94 : Nat) (x95 : Nat) (x96 : Nat) (x97 : Nat) (fa : Nat → Int32) (ou : Nat) (ha0 : fa 0 = 0) (ha1 : fa 1 = 0) (ha2 : fa 2 = 10) (ha3 : fa 3 = 10) (ha4 : fa 4 = 3) (H : Heap) (locs : List Loc) (hw : kW γ A [(x, .inr (10, [.ref x0, .ref x1, .ref x2, .ref x3, .ref x4, .ref x5, .ref x6, .ref x7, .ref x8, .ref x9, .ref x10])), (z, .inr (11, [.int 0, .int 0, .ref z2, .int 0, .int 0, .int 0, .int 0, .long 0, .int 0, .int 0, .ref z10, .ref z11, .ref z12, .ref z13, .ref z14, .ref z15, .ref z16, .ref z17, .ref z18, .ref z19, .int 0, .int 0, .ref z22, .ref z23, .ref z24, .ref z25, .ref z26, .ref z27, .ref z28, .ref z29, .ref z30, .ref z31, .ref z32, .ref z33, .int 0, .long 0, .ref z36, .ref z37, .ref z38, .ref z39, .ref z40, .ref z41, .ref z42, .ref z43, .ref z44, .ref z45, .ref z46, .ref z47, .ref z48, .int 0, .int 10, .int 0, .int 0, .int 0, .int 0, .ref z55, .ref z56, .int 0, .int 0, .ref z59, .ref z60, .ref z61, .int 0, .long 0])), (x9, .inr (0, [.ref x90, .ref x91, .ref x92, .ref x93, .ref x94, .ref x95, .ref x96, .ref x97, .int 0, .int 0, .int 10, .int 10, .int 3, .int 0, .int 0, .int 0, .int 0, .int 0, .int 0])), (z10, .inl (γ.2.1 0, 10, .inl fa))] s H locs) (ls : Array Slot) (hl : lv_has ls 7 [(4, .int 0), (3, .ref ou), (2, .ref z), (1, .ref x), (0, .ref b)]) : W p l e room_1 s m [Value.ref b].toArray below meth c H locs 251 13922 (lw_Z below #[Value.ref b] s) (F0 m 505 ls []) := by
  have hx := hC.1
  have hb := hC.2.1
  refine lv_aload_n hx hb dL_law_505 rfl (lv_at hl 3 rfl) ?_
  refine lv_aload_n hx hb dL_law_506 rfl (lv_at hl 4 rfl) ?_
  refine lv_iload hx hb dL_law_507 (lv_at hl 0 rfl) ?_
  refine lv_iconst (v := 1) hx hb dL_law_509 (by decide) ?_
  refine lv_iadd hx hb dL_law_510 ?_
  refine lv_topi (fun x_2053 ex_2053 => ?_)
  obtain rfl : x_2053 = 1 := ex_2053.trans (by decide)
  refine va_sld hx hb hX hbl hbA hw.2.2 (k_in0 (by decide)) dL_law_511 ?_
  refine lv_topi (fun x_2054 ex_2054 => ?_)
  obtain rfl : x_2054 = xs 1 := ex_2054
  refine k_V (wr := [(z, .inr (11, [.int 0, .int 0, .ref z2, .int 0, .int 0, .int 0, .int 0, .long 0, .int 0, .int 0, .ref z10, .ref z11, .ref z12, .ref z13, .ref z14, .ref z15, .ref z16, .ref z17, .ref z18, .ref z19, .int 0, .int 0, .ref z22, .ref z23, .ref z24, .ref z25, .ref z26, .ref z27, .ref z28, .ref z29, .ref z30, .ref z31, .ref z32, .ref z33, .int 0, .long 0, .ref z36, .ref z37, .ref z38, .ref z39, .ref z40, .ref z41, .ref z42, .ref z43, .ref z44, .ref z45, .ref z46, .ref z47, .ref z48, .int 0, .int 10, .int 0, .int 0, .int 0, .int 0, .ref z55, .ref z56, .int 0, .int 0, .ref z59, .ref z60, .ref z61, .int 0, .long 0])), (z10, .inl (γ.2.1 0, 10, .inl fa))]) 1 gw_815 gw_816 gw_817 gw_1 gw_818 hd_X11_gate hC hw (c_X11_gate γ l x x0 x1 x2 x3 x4 x5 x6 x7 x8 x9 x10 x90 x91 x92 x93 x94 x95 x96 x97 (xs 1)) ⟨by decide, by decide⟩ ⟨by decide, by decide⟩ hl.1 rfl 0 rfl rfl rfl (Nat.le_of_ble_eq_true rfl) [0, 2] [1, 3] rfl rfl rfl rfl (by decide) dL_law_512 (fun r w1 H locs hq hw => ?_)
  obtain ⟨rfl, rfl⟩ := hq
  have hw : kW γ A [(z, .inr (11, [.int 0, .int 0, .ref z2, .int 0, .int 0, .int 0, .int 0, .long 0, .int 0, .int 0, .ref z10, .ref z11, .ref z12, .ref z13, .ref z14, .ref z15, .ref z16, .ref z17, .ref z18, .ref z19, .int 0, .int 0, .ref z22, .ref z23, .ref z24, .ref z25, .ref z26, .ref z27, .ref z28, .ref z29, .ref z30, .ref z31, .ref z32, .ref z33, .int 0, .long 0, .ref z36, .ref z37, .ref z38, .ref z39, .ref z40, .ref z41, .ref z42, .ref z43, .ref z44, .ref z45, .ref z46, .ref z47, .ref z48, .int 0, .int 10, .int 0, .int 0, .int 0, .int 0, .ref z55, .ref z56, .int 0, .int 0, .ref z59, .ref z60, .ref z61, .int 0, .long 0])), (z10, .inl (γ.2.1 0, 10, .inl fa))] s H locs := hw
  refine W.eq (g2 := F0 m 515 ls [.int (-1)]) rfl ?_
  refine lv_aload_n hx hb dL_law_515 rfl (lv_at hl 2 rfl) ?_
  refine lv_aload_n hx hb dL_law_516 rfl (lv_at hl 4 rfl) ?_
  refine lv_iload hx hb dL_law_517 (lv_at hl 0 rfl) ?_
  refine lv_iconst (v := 1) hx hb dL_law_519 (by decide) ?_
  refine lv_iadd hx hb dL_law_520 ?_
  refine lv_topi (fun x_2055 ex_2055 => ?_)
  obtain rfl : x_2055 = 1 := ex_2055.trans (by decide)
  refine va_sld hx hb hX hbl hbA hw.2.2 (k_in0 (by decide)) dL_law_521 ?_
  refine lv_topi (fun x_2056 ex_2056 => ?_)
  obtain rfl : x_2056 = xs 1 := ex_2056
  refine k_V (wr := []) 1 gw_1632 gw_1633 gw_1634 gw_15 gw_1635 hd_X12_gate hC hw (c_X12_gate γ l z z2 z10 z11 z12 z13 z14 z15 z16 z17 z18 z19 z22 z23 z24 z25 z26 z27 z28 z29 z30 z31 z32 z33 z36 z37 z38 z39 z40 z41 z42 z43 z44 z45 z46 z47 z48 z55 z56 z59 z60 z61 fa (xs 1) ha0 ha1 ha2 ha3 ha4) ⟨by decide, by decide⟩ ⟨by decide, by decide⟩ hl.1 rfl 0 rfl rfl rfl (Nat.le_of_ble_eq_true rfl) [0, 1] [] rfl rfl rfl rfl (by decide) dL_law_522 (fun r w1 H locs hq hw => ?_)
  obtain ⟨rfl, rfl⟩ := hq
  have hw : kW γ A [] s H locs := hw
  refine W.eq (g2 := F0 m 525 ls [.int (-1), .int (-1)]) rfl ?_
  refine lv_icmp_eq (tgt := 1370) hx hb dL_law_525 (by decide) (fun _ => ?_) (fun h => absurd (by decide) h)
  exact law_end hC hr hlocks hX hbl hbA hAs hl9 _ _ (kW.sub hw [] rfl rfl) (by decide) (by decide) _ (lv_sub hl [0, 4] rfl)

set_option maxHeartbeats 4000000 in
set_option maxRecDepth 100000 in
theorem lc_8 {γ : kΓ} {l : Launch} {p : Program} {e : Env} {s : State} {m : MethodId} {below : List Frame} {meth : Method} {c : Code} {A : Nat → Prop} {b : Nat} {xs : Nat → Int32} (hC : kC γ p s m [Value.ref b].toArray c code 7 RL A) (hr : meth.sig.returnType = ret) (hlocks : meth.locks = false) (hX : va_X b 7 xs s s.heap) (hbl : b < s.heap.size) (hbA : ¬ A b) (hAs : ∀ q, A q → s.heap.size ≤ q) (hl9 : l.stackTraces = false) (x : Nat) (x0 : Nat) (x1 : Nat) (x2 : Nat) (x3 : Nat) (x4 : Nat) (x5 : Nat) (x6 : Nat) (x7 : Nat) (x8 : Nat) (x9 : Nat) (x10 : Nat) (z : Nat) (z2 : Nat) (z10 : Nat) (z11 : Nat) (z12 : Nat) (z13 : Nat) (z14 : Nat) (z15 : Nat) (z16 : Nat) (z17 : Nat) (z18 : Nat) (z19 : Nat) (z22 : Nat) (z23 : Nat) (z24 : Nat) (z25 : Nat) (z26 : Nat) (z27 : Nat) (z28 : Nat) (z29 : Nat) (z30 : Nat) (z31 : Nat) (z32 : Nat) (z33 : Nat) (z36 : Nat) (z37 : Nat) (z38 : Nat) (z39 : Nat) (z40 : Nat) (z41 : Nat) (z42 : Nat) (z43 : Nat) (z44 : Nat) (z45 : Nat) (z46 : Nat) (z47 : Nat) (z48 : Nat) (z55 : Nat) (z56 : Nat) (z59 : Nat) (z60 : Nat) (z61 : Nat) (x90 : Nat) (x91 : Nat) (x92 : Nat) (x93 : Nat) (x94 : Nat) (x95 : Nat) (x96 : Nat) (x97 : Nat) (fa : Nat → Int32) (ou : Nat) (ha0 : fa 0 = 0) (ha1 : fa 1 = 0) (ha2 : fa 2 = 10) (ha3 : fa 3 = 10) (ha4 : fa 4 = 3) (H : Heap) (locs : List Loc) (hw : kW γ A [(x, .inr (10, [.ref x0, .ref x1, .ref x2, .ref x3, .ref x4, .ref x5, .ref x6, .ref x7, .ref x8, .ref x9, .ref x10])), (z, .inr (11, [.int 0, .int 0, .ref z2, .int 0, .int 0, .int 0, .int 0, .long 0, .int 0, .int 0, .ref z10, .ref z11, .ref z12, .ref z13, .ref z14, .ref z15, .ref z16, .ref z17, .ref z18, .ref z19, .int 0, .int 0, .ref z22, .ref z23, .ref z24, .ref z25, .ref z26, .ref z27, .ref z28, .ref z29, .ref z30, .ref z31, .ref z32, .ref z33, .int 0, .long 0, .ref z36, .ref z37, .ref z38, .ref z39, .ref z40, .ref z41, .ref z42, .ref z43, .ref z44, .ref z45, .ref z46, .ref z47, .ref z48, .int 0, .int 10, .int 0, .int 0, .int 0, .int 0, .ref z55, .ref z56, .int 0, .int 0, .ref z59, .ref z60, .ref z61, .int 0, .long 0])), (x9, .inr (0, [.ref x90, .ref x91, .ref x92, .ref x93, .ref x94, .ref x95, .ref x96, .ref x97, .int 0, .int 0, .int 10, .int 10, .int 3, .int 0, .int 0, .int 0, .int 0, .int 0, .int 0])), (z10, .inl (γ.2.1 0, 10, .inl fa))] s H locs) (ls : Array Slot) (hl : lv_has ls 7 [(4, .int 0), (3, .ref ou), (2, .ref z), (1, .ref x), (0, .ref b)]) : W p l e room_1 s m [Value.ref b].toArray below meth c H locs 251 13922 (lw_Z below #[Value.ref b] s) (F0 m 530 ls []) := by
  have hx := hC.1
  have hb := hC.2.1
  refine lv_aload_n hx hb dL_law_530 rfl (lv_at hl 3 rfl) ?_
  refine lv_aload_n hx hb dL_law_531 rfl (lv_at hl 4 rfl) ?_
  refine lv_iload hx hb dL_law_532 (lv_at hl 0 rfl) ?_
  refine lv_iconst (v := 1) hx hb dL_law_534 (by decide) ?_
  refine lv_iadd hx hb dL_law_535 ?_
  refine lv_topi (fun x_2057 ex_2057 => ?_)
  obtain rfl : x_2057 = 1 := ex_2057.trans (by decide)
  refine va_sld hx hb hX hbl hbA hw.2.2 (k_in0 (by decide)) dL_law_536 ?_
  refine lv_topi (fun x_2058 ex_2058 => ?_)
  obtain rfl : x_2058 = xs 1 := ex_2058
  refine lv_aload_n hx hb dL_law_537 rfl (lv_at hl 4 rfl) ?_
  refine lv_iload hx hb dL_law_538 (lv_at hl 0 rfl) ?_
  refine lv_iconst (v := 2) hx hb dL_law_540 (by decide) ?_
  refine lv_iadd hx hb dL_law_541 ?_
  refine lv_topi (fun x_2059 ex_2059 => ?_)
  obtain rfl : x_2059 = 2 := ex_2059.trans (by decide)
  refine va_sld hx hb hX hbl hbA hw.2.2 (k_in0 (by decide)) dL_law_542 ?_
  refine lv_topi (fun x_2060 ex_2060 => ?_)
  obtain rfl : x_2060 = xs 2 := ex_2060
  refine k_V (wr := [(z, .inr (11, [.int 0, .int 0, .ref z2, .int 0, .int 0, .int 0, .int 0, .long 0, .int 0, .int 0, .ref z10, .ref z11, .ref z12, .ref z13, .ref z14, .ref z15, .ref z16, .ref z17, .ref z18, .ref z19, .int 0, .int 0, .ref z22, .ref z23, .ref z24, .ref z25, .ref z26, .ref z27, .ref z28, .ref z29, .ref z30, .ref z31, .ref z32, .ref z33, .int 0, .long 0, .ref z36, .ref z37, .ref z38, .ref z39, .ref z40, .ref z41, .ref z42, .ref z43, .ref z44, .ref z45, .ref z46, .ref z47, .ref z48, .int 0, .int 10, .int 0, .int 0, .int 0, .int 0, .ref z55, .ref z56, .int 0, .int 0, .ref z59, .ref z60, .ref z61, .int 0, .long 0])), (z10, .inl (γ.2.1 0, 10, .inl fa))]) 2 gw_827 gw_828 gw_829 gw_1 gw_830 hd_X11_pool hC hw (c_X11_pool γ l x x0 x1 x2 x3 x4 x5 x6 x7 x8 x9 x10 x90 x91 x92 x93 x94 x95 x96 x97 (xs 1) (xs 2)) ⟨by decide, by decide⟩ ⟨by decide, by decide⟩ hl.1 rfl 0 rfl rfl rfl (Nat.le_of_ble_eq_true rfl) [0, 2] [1, 3] rfl rfl rfl rfl (by decide) dL_law_543 (fun r w1 H locs hq hw => ?_)
  obtain ⟨rfl, rfl⟩ := hq
  have hw : kW γ A [(z, .inr (11, [.int 0, .int 0, .ref z2, .int 0, .int 0, .int 0, .int 0, .long 0, .int 0, .int 0, .ref z10, .ref z11, .ref z12, .ref z13, .ref z14, .ref z15, .ref z16, .ref z17, .ref z18, .ref z19, .int 0, .int 0, .ref z22, .ref z23, .ref z24, .ref z25, .ref z26, .ref z27, .ref z28, .ref z29, .ref z30, .ref z31, .ref z32, .ref z33, .int 0, .long 0, .ref z36, .ref z37, .ref z38, .ref z39, .ref z40, .ref z41, .ref z42, .ref z43, .ref z44, .ref z45, .ref z46, .ref z47, .ref z48, .int 0, .int 10, .int 0, .int 0, .int 0, .int 0, .ref z55, .ref z56, .int 0, .int 0, .ref z59, .ref z60, .ref z61, .int 0, .long 0])), (z10, .inl (γ.2.1 0, 10, .inl fa))] s H locs := hw
  refine W.eq (g2 := F0 m 546 ls [.int 0]) rfl ?_
  refine lv_aload_n hx hb dL_law_546 rfl (lv_at hl 2 rfl) ?_
  refine lv_aload_n hx hb dL_law_547 rfl (lv_at hl 4 rfl) ?_
  refine lv_iload hx hb dL_law_548 (lv_at hl 0 rfl) ?_
  refine lv_iconst (v := 1) hx hb dL_law_550 (by decide) ?_
  refine lv_iadd hx hb dL_law_551 ?_
  refine lv_topi (fun x_2061 ex_2061 => ?_)
  obtain rfl : x_2061 = 1 := ex_2061.trans (by decide)
  refine va_sld hx hb hX hbl hbA hw.2.2 (k_in0 (by decide)) dL_law_552 ?_
  refine lv_topi (fun x_2062 ex_2062 => ?_)
  obtain rfl : x_2062 = xs 1 := ex_2062
  refine lv_aload_n hx hb dL_law_553 rfl (lv_at hl 4 rfl) ?_
  refine lv_iload hx hb dL_law_554 (lv_at hl 0 rfl) ?_
  refine lv_iconst (v := 2) hx hb dL_law_556 (by decide) ?_
  refine lv_iadd hx hb dL_law_557 ?_
  refine lv_topi (fun x_2063 ex_2063 => ?_)
  obtain rfl : x_2063 = 2 := ex_2063.trans (by decide)
  refine va_sld hx hb hX hbl hbA hw.2.2 (k_in0 (by decide)) dL_law_558 ?_
  refine lv_topi (fun x_2064 ex_2064 => ?_)
  obtain rfl : x_2064 = xs 2 := ex_2064
  refine k_V (wr := []) 2 gw_1640 gw_1641 gw_1642 gw_15 gw_1643 hd_X12_pool hC hw (c_X12_pool γ l z z2 z10 z11 z12 z13 z14 z15 z16 z17 z18 z19 z22 z23 z24 z25 z26 z27 z28 z29 z30 z31 z32 z33 z36 z37 z38 z39 z40 z41 z42 z43 z44 z45 z46 z47 z48 z55 z56 z59 z60 z61 fa (xs 1) (xs 2) ha0 ha1 ha2 ha3 ha4) ⟨by decide, by decide⟩ ⟨by decide, by decide⟩ hl.1 rfl 0 rfl rfl rfl (Nat.le_of_ble_eq_true rfl) [0, 1] [] rfl rfl rfl rfl (by decide) dL_law_559 (fun r w1 H locs hq hw => ?_)
  obtain ⟨rfl, rfl⟩ := hq
  have hw : kW γ A [] s H locs := hw
  refine W.eq (g2 := F0 m 562 ls [.int 0, .int 0]) rfl ?_
  refine lv_icmp_eq (tgt := 1370) hx hb dL_law_562 (by decide) (fun _ => ?_) (fun h => absurd (by decide) h)
  exact law_end hC hr hlocks hX hbl hbA hAs hl9 _ _ (kW.sub hw [] rfl rfl) (by decide) (by decide) _ (lv_sub hl [0, 4] rfl)

set_option maxHeartbeats 4000000 in
set_option maxRecDepth 100000 in
theorem lc_9 {γ : kΓ} {l : Launch} {p : Program} {e : Env} {s : State} {m : MethodId} {below : List Frame} {meth : Method} {c : Code} {A : Nat → Prop} {b : Nat} {xs : Nat → Int32} (hC : kC γ p s m [Value.ref b].toArray c code 7 RL A) (hr : meth.sig.returnType = ret) (hlocks : meth.locks = false) (hX : va_X b 7 xs s s.heap) (hbl : b < s.heap.size) (hbA : ¬ A b) (hAs : ∀ q, A q → s.heap.size ≤ q) (hl9 : l.stackTraces = false) (x : Nat) (x0 : Nat) (x1 : Nat) (x2 : Nat) (x3 : Nat) (x4 : Nat) (x5 : Nat) (x6 : Nat) (x7 : Nat) (x8 : Nat) (x9 : Nat) (x10 : Nat) (z : Nat) (z2 : Nat) (z10 : Nat) (z11 : Nat) (z12 : Nat) (z13 : Nat) (z14 : Nat) (z15 : Nat) (z16 : Nat) (z17 : Nat) (z18 : Nat) (z19 : Nat) (z22 : Nat) (z23 : Nat) (z24 : Nat) (z25 : Nat) (z26 : Nat) (z27 : Nat) (z28 : Nat) (z29 : Nat) (z30 : Nat) (z31 : Nat) (z32 : Nat) (z33 : Nat) (z36 : Nat) (z37 : Nat) (z38 : Nat) (z39 : Nat) (z40 : Nat) (z41 : Nat) (z42 : Nat) (z43 : Nat) (z44 : Nat) (z45 : Nat) (z46 : Nat) (z47 : Nat) (z48 : Nat) (z55 : Nat) (z56 : Nat) (z59 : Nat) (z60 : Nat) (z61 : Nat) (ua : Nat) (x2s : Nat) (x2y : Nat) (x2q : Nat) (ou : Nat) (H : Heap) (locs : List Loc) (hw : kW γ A [(x, .inr (10, [.ref x0, .ref x1, .ref x2, .ref x3, .ref x4, .ref x5, .ref x6, .ref x7, .ref x8, .ref x9, .ref x10])), (z, .inr (11, [.int 0, .int 0, .ref z2, .int 0, .int 0, .int 0, .int 0, .long 0, .int 0, .int 0, .ref z10, .ref z11, .ref z12, .ref z13, .ref z14, .ref z15, .ref z16, .ref z17, .ref z18, .ref z19, .int 0, .int 0, .ref z22, .ref z23, .ref z24, .ref z25, .ref z26, .ref z27, .ref z28, .ref z29, .ref z30, .ref z31, .ref z32, .ref z33, .int 0, .long 0, .ref z36, .ref z37, .ref z38, .ref z39, .ref z40, .ref z41, .ref z42, .ref z43, .ref z44, .ref z45, .ref z46, .ref z47, .ref z48, .int 0, .int 10, .int 0, .int 0, .int 0, .int 0, .ref z55, .ref z56, .int 0, .int 0, .ref z59, .ref z60, .ref z61, .int 0, .long 0])), (x1, .inr (9, [.ref ua, .int 0, .int 0])), (x2, .inr (3, [.ref x2s, .ref x2y, .ref x2q, .int 0, .int 0, .int 0]))] s H locs) (ls : Array Slot) (hl : lv_has ls 7 [(4, .int 0), (3, .ref ou), (2, .ref z), (1, .ref x), (0, .ref b)]) : W p l e room_1 s m [Value.ref b].toArray below meth c H locs 251 13922 (lw_Z below #[Value.ref b] s) (F0 m 567 ls []) := by
  have hx := hC.1
  have hb := hC.2.1
  refine lv_aload_n hx hb dL_law_567 rfl (lv_at hl 3 rfl) ?_
  refine k_V (wr := [(z, .inr (11, [.int 0, .int 0, .ref z2, .int 0, .int 0, .int 0, .int 0, .long 0, .int 0, .int 0, .ref z10, .ref z11, .ref z12, .ref z13, .ref z14, .ref z15, .ref z16, .ref z17, .ref z18, .ref z19, .int 0, .int 0, .ref z22, .ref z23, .ref z24, .ref z25, .ref z26, .ref z27, .ref z28, .ref z29, .ref z30, .ref z31, .ref z32, .ref z33, .int 0, .long 0, .ref z36, .ref z37, .ref z38, .ref z39, .ref z40, .ref z41, .ref z42, .ref z43, .ref z44, .ref z45, .ref z46, .ref z47, .ref z48, .int 0, .int 10, .int 0, .int 0, .int 0, .int 0, .ref z55, .ref z56, .int 0, .int 0, .ref z59, .ref z60, .ref z61, .int 0, .long 0]))]) 0 gw_839 gw_840 gw_841 gw_1 gw_842 hd_X11_undo hC hw (c_X11_undo γ l x x0 x1 x2 x3 x4 x5 x6 x7 x8 x9 x10 x2s x2y x2q 0 ua) ⟨by decide, by decide⟩ ⟨by decide, by decide⟩ hl.1 rfl 0 rfl rfl rfl (Nat.le_of_ble_eq_true rfl) [0, 2, 3] [1] rfl rfl rfl rfl (by decide) dL_law_568 (fun r w1 H locs hq hw => ?_)
  obtain ⟨rfl, rfl⟩ := hq
  have hw : kW γ A [(z, .inr (11, [.int 0, .int 0, .ref z2, .int 0, .int 0, .int 0, .int 0, .long 0, .int 0, .int 0, .ref z10, .ref z11, .ref z12, .ref z13, .ref z14, .ref z15, .ref z16, .ref z17, .ref z18, .ref z19, .int 0, .int 0, .ref z22, .ref z23, .ref z24, .ref z25, .ref z26, .ref z27, .ref z28, .ref z29, .ref z30, .ref z31, .ref z32, .ref z33, .int 0, .long 0, .ref z36, .ref z37, .ref z38, .ref z39, .ref z40, .ref z41, .ref z42, .ref z43, .ref z44, .ref z45, .ref z46, .ref z47, .ref z48, .int 0, .int 10, .int 0, .int 0, .int 0, .int 0, .ref z55, .ref z56, .int 0, .int 0, .ref z59, .ref z60, .ref z61, .int 0, .long 0]))] s H locs := hw
  refine W.eq (g2 := F0 m 571 ls [.int 0]) rfl ?_
  refine lv_aload_n hx hb dL_law_571 rfl (lv_at hl 2 rfl) ?_
  refine k_V (wr := []) 0 gw_1652 gw_1653 gw_1654 gw_15 gw_1655 hd_X12_undo hC hw (c_X12_undo γ l z z2 z10 z11 z12 z13 z14 z15 z16 z17 z18 z19 z22 z23 z24 z25 z26 z27 z28 z29 z30 z31 z32 z33 z36 z37 z38 z39 z40 z41 z42 z43 z44 z45 z46 z47 z48 z55 z56 z59 z60 z61) ⟨by decide, by decide⟩ ⟨by decide, by decide⟩ hl.1 rfl 0 rfl rfl rfl (Nat.le_of_ble_eq_true rfl) [0] [] rfl rfl rfl rfl (by decide) dL_law_572 (fun r w1 H locs hq hw => ?_)
  obtain ⟨rfl, rfl⟩ := hq
  have hw : kW γ A [] s H locs := hw
  refine W.eq (g2 := F0 m 575 ls [.int 0, .int 0]) rfl ?_
  refine lv_icmp_eq (tgt := 1370) hx hb dL_law_575 (by decide) (fun _ => ?_) (fun h => absurd (by decide) h)
  exact law_end hC hr hlocks hX hbl hbA hAs hl9 _ _ (kW.sub hw [] rfl rfl) (by decide) (by decide) _ (lv_sub hl [0, 4] rfl)

set_option maxHeartbeats 4000000 in
set_option maxRecDepth 100000 in
theorem lc_12 {γ : kΓ} {l : Launch} {p : Program} {e : Env} {s : State} {m : MethodId} {below : List Frame} {meth : Method} {c : Code} {A : Nat → Prop} {b : Nat} {xs : Nat → Int32} (hC : kC γ p s m [Value.ref b].toArray c code 7 RL A) (hr : meth.sig.returnType = ret) (hlocks : meth.locks = false) (hX : va_X b 7 xs s s.heap) (hbl : b < s.heap.size) (hbA : ¬ A b) (hAs : ∀ q, A q → s.heap.size ≤ q) (hl9 : l.stackTraces = false) (x : Nat) (x0 : Nat) (x1 : Nat) (x2 : Nat) (x3 : Nat) (x4 : Nat) (x5 : Nat) (x6 : Nat) (x7 : Nat) (x8 : Nat) (x9 : Nat) (x10 : Nat) (z : Nat) (z2 : Nat) (z10 : Nat) (z11 : Nat) (z12 : Nat) (z13 : Nat) (z14 : Nat) (z15 : Nat) (z16 : Nat) (z17 : Nat) (z18 : Nat) (z19 : Nat) (z22 : Nat) (z23 : Nat) (z24 : Nat) (z25 : Nat) (z26 : Nat) (z27 : Nat) (z28 : Nat) (z29 : Nat) (z30 : Nat) (z31 : Nat) (z32 : Nat) (z33 : Nat) (z36 : Nat) (z37 : Nat) (z38 : Nat) (z39 : Nat) (z40 : Nat) (z41 : Nat) (z42 : Nat) (z43 : Nat) (z44 : Nat) (z45 : Nat) (z46 : Nat) (z47 : Nat) (z48 : Nat) (z55 : Nat) (z56 : Nat) (z59 : Nat) (z60 : Nat) (z61 : Nat) (x90 : Nat) (x91 : Nat) (x92 : Nat) (x93 : Nat) (x94 : Nat) (x95 : Nat) (x96 : Nat) (x97 : Nat) (fa : Nat → Int32) (ou : Nat) (ha0 : fa 0 = 0) (ha1 : fa 1 = 0) (ha2 : fa 2 = 10) (ha3 : fa 3 = 10) (ha4 : fa 4 = 3) (H : Heap) (locs : List Loc) (hw : kW γ A [(x, .inr (10, [.ref x0, .ref x1, .ref x2, .ref x3, .ref x4, .ref x5, .ref x6, .ref x7, .ref x8, .ref x9, .ref x10])), (z, .inr (11, [.int 0, .int 0, .ref z2, .int 0, .int 0, .int 0, .int 0, .long 0, .int 0, .int 0, .ref z10, .ref z11, .ref z12, .ref z13, .ref z14, .ref z15, .ref z16, .ref z17, .ref z18, .ref z19, .int 0, .int 0, .ref z22, .ref z23, .ref z24, .ref z25, .ref z26, .ref z27, .ref z28, .ref z29, .ref z30, .ref z31, .ref z32, .ref z33, .int 0, .long 0, .ref z36, .ref z37, .ref z38, .ref z39, .ref z40, .ref z41, .ref z42, .ref z43, .ref z44, .ref z45, .ref z46, .ref z47, .ref z48, .int 0, .int 10, .int 0, .int 0, .int 0, .int 0, .ref z55, .ref z56, .int 0, .int 0, .ref z59, .ref z60, .ref z61, .int 0, .long 0])), (x9, .inr (0, [.ref x90, .ref x91, .ref x92, .ref x93, .ref x94, .ref x95, .ref x96, .ref x97, .int 0, .int 0, .int 10, .int 10, .int 3, .int 0, .int 0, .int 0, .int 0, .int 0, .int 0])), (z10, .inl (γ.2.1 0, 10, .inl fa))] s H locs) (ls : Array Slot) (hl : lv_has ls 7 [(4, .int 0), (3, .ref ou), (2, .ref z), (1, .ref x), (0, .ref b)]) : W p l e room_1 s m [Value.ref b].toArray below meth c H locs 251 13922 (lw_Z below #[Value.ref b] s) (F0 m 716 ls []) := by
  have hx := hC.1
  have hb := hC.2.1
  refine lv_aload_n hx hb dL_law_716 rfl (lv_at hl 3 rfl) ?_
  refine lv_aload_n hx hb dL_law_717 rfl (lv_at hl 4 rfl) ?_
  refine lv_iload hx hb dL_law_718 (lv_at hl 0 rfl) ?_
  refine lv_iconst (v := 1) hx hb dL_law_720 (by decide) ?_
  refine lv_iadd hx hb dL_law_721 ?_
  refine lv_topi (fun x_2065 ex_2065 => ?_)
  obtain rfl : x_2065 = 1 := ex_2065.trans (by decide)
  refine va_sld hx hb hX hbl hbA hw.2.2 (k_in0 (by decide)) dL_law_722 ?_
  refine lv_topi (fun x_2066 ex_2066 => ?_)
  obtain rfl : x_2066 = xs 1 := ex_2066
  refine lv_aload_n hx hb dL_law_723 rfl (lv_at hl 4 rfl) ?_
  refine lv_iload hx hb dL_law_724 (lv_at hl 0 rfl) ?_
  refine lv_iconst (v := 2) hx hb dL_law_726 (by decide) ?_
  refine lv_iadd hx hb dL_law_727 ?_
  refine lv_topi (fun x_2067 ex_2067 => ?_)
  obtain rfl : x_2067 = 2 := ex_2067.trans (by decide)
  refine va_sld hx hb hX hbl hbA hw.2.2 (k_in0 (by decide)) dL_law_728 ?_
  refine lv_topi (fun x_2068 ex_2068 => ?_)
  obtain rfl : x_2068 = xs 2 := ex_2068
  refine k_V (wr := [(z, .inr (11, [.int 0, .int 0, .ref z2, .int 0, .int 0, .int 0, .int 0, .long 0, .int 0, .int 0, .ref z10, .ref z11, .ref z12, .ref z13, .ref z14, .ref z15, .ref z16, .ref z17, .ref z18, .ref z19, .int 0, .int 0, .ref z22, .ref z23, .ref z24, .ref z25, .ref z26, .ref z27, .ref z28, .ref z29, .ref z30, .ref z31, .ref z32, .ref z33, .int 0, .long 0, .ref z36, .ref z37, .ref z38, .ref z39, .ref z40, .ref z41, .ref z42, .ref z43, .ref z44, .ref z45, .ref z46, .ref z47, .ref z48, .int 0, .int 10, .int 0, .int 0, .int 0, .int 0, .ref z55, .ref z56, .int 0, .int 0, .ref z59, .ref z60, .ref z61, .int 0, .long 0])), (z10, .inl (γ.2.1 0, 10, .inl fa))]) 2 gw_888 gw_889 gw_890 gw_1 gw_891 hd_X11_tithed hC hw (c_X11_tithed γ l x x0 x1 x2 x3 x4 x5 x6 x7 x8 x9 x10 x90 x91 x92 x93 x94 x95 x96 x97 (xs 1) (xs 2)) ⟨by decide, by decide⟩ ⟨by decide, by decide⟩ hl.1 rfl 0 rfl rfl rfl (Nat.le_of_ble_eq_true rfl) [0, 2] [1, 3] rfl rfl rfl rfl (by decide) dL_law_729 (fun r w1 H locs hq hw => ?_)
  obtain ⟨rfl, rfl⟩ := hq
  have hw : kW γ A [(z, .inr (11, [.int 0, .int 0, .ref z2, .int 0, .int 0, .int 0, .int 0, .long 0, .int 0, .int 0, .ref z10, .ref z11, .ref z12, .ref z13, .ref z14, .ref z15, .ref z16, .ref z17, .ref z18, .ref z19, .int 0, .int 0, .ref z22, .ref z23, .ref z24, .ref z25, .ref z26, .ref z27, .ref z28, .ref z29, .ref z30, .ref z31, .ref z32, .ref z33, .int 0, .long 0, .ref z36, .ref z37, .ref z38, .ref z39, .ref z40, .ref z41, .ref z42, .ref z43, .ref z44, .ref z45, .ref z46, .ref z47, .ref z48, .int 0, .int 10, .int 0, .int 0, .int 0, .int 0, .ref z55, .ref z56, .int 0, .int 0, .ref z59, .ref z60, .ref z61, .int 0, .long 0])), (z10, .inl (γ.2.1 0, 10, .inl fa))] s H locs := hw
  refine W.eq (g2 := F0 m 732 ls [.int (-1)]) rfl ?_
  refine lv_aload_n hx hb dL_law_732 rfl (lv_at hl 2 rfl) ?_
  refine lv_aload_n hx hb dL_law_733 rfl (lv_at hl 4 rfl) ?_
  refine lv_iload hx hb dL_law_734 (lv_at hl 0 rfl) ?_
  refine lv_iconst (v := 1) hx hb dL_law_736 (by decide) ?_
  refine lv_iadd hx hb dL_law_737 ?_
  refine lv_topi (fun x_2069 ex_2069 => ?_)
  obtain rfl : x_2069 = 1 := ex_2069.trans (by decide)
  refine va_sld hx hb hX hbl hbA hw.2.2 (k_in0 (by decide)) dL_law_738 ?_
  refine lv_topi (fun x_2070 ex_2070 => ?_)
  obtain rfl : x_2070 = xs 1 := ex_2070
  refine lv_aload_n hx hb dL_law_739 rfl (lv_at hl 4 rfl) ?_
  refine lv_iload hx hb dL_law_740 (lv_at hl 0 rfl) ?_
  refine lv_iconst (v := 2) hx hb dL_law_742 (by decide) ?_
  refine lv_iadd hx hb dL_law_743 ?_
  refine lv_topi (fun x_2071 ex_2071 => ?_)
  obtain rfl : x_2071 = 2 := ex_2071.trans (by decide)
  refine va_sld hx hb hX hbl hbA hw.2.2 (k_in0 (by decide)) dL_law_744 ?_
  refine lv_topi (fun x_2072 ex_2072 => ?_)
  obtain rfl : x_2072 = xs 2 := ex_2072
  refine k_V (wr := []) 2 gw_1684 gw_1685 gw_1686 gw_15 gw_1687 hd_X12_tithed hC hw (c_X12_tithed γ l z z2 z10 z11 z12 z13 z14 z15 z16 z17 z18 z19 z22 z23 z24 z25 z26 z27 z28 z29 z30 z31 z32 z33 z36 z37 z38 z39 z40 z41 z42 z43 z44 z45 z46 z47 z48 z55 z56 z59 z60 z61 fa (xs 1) (xs 2) ha0 ha1 ha2 ha3 ha4) ⟨by decide, by decide⟩ ⟨by decide, by decide⟩ hl.1 rfl 0 rfl rfl rfl (Nat.le_of_ble_eq_true rfl) [0, 1] [] rfl rfl rfl rfl (by decide) dL_law_745 (fun r w1 H locs hq hw => ?_)
  obtain ⟨rfl, rfl⟩ := hq
  have hw : kW γ A [] s H locs := hw
  refine W.eq (g2 := F0 m 748 ls [.int (-1), .int (-1)]) rfl ?_
  refine lv_icmp_eq (tgt := 1370) hx hb dL_law_748 (by decide) (fun _ => ?_) (fun h => absurd (by decide) h)
  exact law_end hC hr hlocks hX hbl hbA hAs hl9 _ _ (kW.sub hw [] rfl rfl) (by decide) (by decide) _ (lv_sub hl [0, 4] rfl)

set_option maxHeartbeats 4000000 in
set_option maxRecDepth 100000 in
theorem lc_13 {γ : kΓ} {l : Launch} {p : Program} {e : Env} {s : State} {m : MethodId} {below : List Frame} {meth : Method} {c : Code} {A : Nat → Prop} {b : Nat} {xs : Nat → Int32} (hC : kC γ p s m [Value.ref b].toArray c code 7 RL A) (hr : meth.sig.returnType = ret) (hlocks : meth.locks = false) (hX : va_X b 7 xs s s.heap) (hbl : b < s.heap.size) (hbA : ¬ A b) (hAs : ∀ q, A q → s.heap.size ≤ q) (hl9 : l.stackTraces = false) (x : Nat) (x0 : Nat) (x1 : Nat) (x2 : Nat) (x3 : Nat) (x4 : Nat) (x5 : Nat) (x6 : Nat) (x7 : Nat) (x8 : Nat) (x9 : Nat) (x10 : Nat) (z : Nat) (z2 : Nat) (z10 : Nat) (z11 : Nat) (z12 : Nat) (z13 : Nat) (z14 : Nat) (z15 : Nat) (z16 : Nat) (z17 : Nat) (z18 : Nat) (z19 : Nat) (z22 : Nat) (z23 : Nat) (z24 : Nat) (z25 : Nat) (z26 : Nat) (z27 : Nat) (z28 : Nat) (z29 : Nat) (z30 : Nat) (z31 : Nat) (z32 : Nat) (z33 : Nat) (z36 : Nat) (z37 : Nat) (z38 : Nat) (z39 : Nat) (z40 : Nat) (z41 : Nat) (z42 : Nat) (z43 : Nat) (z44 : Nat) (z45 : Nat) (z46 : Nat) (z47 : Nat) (z48 : Nat) (z55 : Nat) (z56 : Nat) (z59 : Nat) (z60 : Nat) (z61 : Nat) (x90 : Nat) (x91 : Nat) (x92 : Nat) (x93 : Nat) (x94 : Nat) (x95 : Nat) (x96 : Nat) (x97 : Nat) (fa : Nat → Int32) (ou : Nat) (ha0 : fa 0 = 0) (ha1 : fa 1 = 0) (ha2 : fa 2 = 10) (ha3 : fa 3 = 10) (ha4 : fa 4 = 3) (H : Heap) (locs : List Loc) (hw : kW γ A [(x, .inr (10, [.ref x0, .ref x1, .ref x2, .ref x3, .ref x4, .ref x5, .ref x6, .ref x7, .ref x8, .ref x9, .ref x10])), (z, .inr (11, [.int 0, .int 0, .ref z2, .int 0, .int 0, .int 0, .int 0, .long 0, .int 0, .int 0, .ref z10, .ref z11, .ref z12, .ref z13, .ref z14, .ref z15, .ref z16, .ref z17, .ref z18, .ref z19, .int 0, .int 0, .ref z22, .ref z23, .ref z24, .ref z25, .ref z26, .ref z27, .ref z28, .ref z29, .ref z30, .ref z31, .ref z32, .ref z33, .int 0, .long 0, .ref z36, .ref z37, .ref z38, .ref z39, .ref z40, .ref z41, .ref z42, .ref z43, .ref z44, .ref z45, .ref z46, .ref z47, .ref z48, .int 0, .int 10, .int 0, .int 0, .int 0, .int 0, .ref z55, .ref z56, .int 0, .int 0, .ref z59, .ref z60, .ref z61, .int 0, .long 0])), (x9, .inr (0, [.ref x90, .ref x91, .ref x92, .ref x93, .ref x94, .ref x95, .ref x96, .ref x97, .int 0, .int 0, .int 10, .int 10, .int 3, .int 0, .int 0, .int 0, .int 0, .int 0, .int 0])), (z10, .inl (γ.2.1 0, 10, .inl fa))] s H locs) (ls : Array Slot) (hl : lv_has ls 7 [(4, .int 0), (3, .ref ou), (2, .ref z), (1, .ref x), (0, .ref b)]) : W p l e room_1 s m [Value.ref b].toArray below meth c H locs 251 13922 (lw_Z below #[Value.ref b] s) (F0 m 753 ls []) := by
  have hx := hC.1
  have hb := hC.2.1
  refine lv_aload_n hx hb dL_law_753 rfl (lv_at hl 3 rfl) ?_
  refine lv_aload_n hx hb dL_law_754 rfl (lv_at hl 4 rfl) ?_
  refine lv_iload hx hb dL_law_755 (lv_at hl 0 rfl) ?_
  refine lv_iconst (v := 1) hx hb dL_law_757 (by decide) ?_
  refine lv_iadd hx hb dL_law_758 ?_
  refine lv_topi (fun x_2073 ex_2073 => ?_)
  obtain rfl : x_2073 = 1 := ex_2073.trans (by decide)
  refine va_sld hx hb hX hbl hbA hw.2.2 (k_in0 (by decide)) dL_law_759 ?_
  refine lv_topi (fun x_2074 ex_2074 => ?_)
  obtain rfl : x_2074 = xs 1 := ex_2074
  refine lv_aload_n hx hb dL_law_760 rfl (lv_at hl 4 rfl) ?_
  refine lv_iload hx hb dL_law_761 (lv_at hl 0 rfl) ?_
  refine lv_iconst (v := 2) hx hb dL_law_763 (by decide) ?_
  refine lv_iadd hx hb dL_law_764 ?_
  refine lv_topi (fun x_2075 ex_2075 => ?_)
  obtain rfl : x_2075 = 2 := ex_2075.trans (by decide)
  refine va_sld hx hb hX hbl hbA hw.2.2 (k_in0 (by decide)) dL_law_765 ?_
  refine lv_topi (fun x_2076 ex_2076 => ?_)
  obtain rfl : x_2076 = xs 2 := ex_2076
  refine lv_aload_n hx hb dL_law_766 rfl (lv_at hl 4 rfl) ?_
  refine lv_iload hx hb dL_law_767 (lv_at hl 0 rfl) ?_
  refine lv_iconst (v := 3) hx hb dL_law_769 (by decide) ?_
  refine lv_iadd hx hb dL_law_770 ?_
  refine lv_topi (fun x_2077 ex_2077 => ?_)
  obtain rfl : x_2077 = 3 := ex_2077.trans (by decide)
  refine va_sld hx hb hX hbl hbA hw.2.2 (k_in0 (by decide)) dL_law_771 ?_
  refine lv_topi (fun x_2078 ex_2078 => ?_)
  obtain rfl : x_2078 = xs 3 := ex_2078
  refine k_V (wr := [(z, .inr (11, [.int 0, .int 0, .ref z2, .int 0, .int 0, .int 0, .int 0, .long 0, .int 0, .int 0, .ref z10, .ref z11, .ref z12, .ref z13, .ref z14, .ref z15, .ref z16, .ref z17, .ref z18, .ref z19, .int 0, .int 0, .ref z22, .ref z23, .ref z24, .ref z25, .ref z26, .ref z27, .ref z28, .ref z29, .ref z30, .ref z31, .ref z32, .ref z33, .int 0, .long 0, .ref z36, .ref z37, .ref z38, .ref z39, .ref z40, .ref z41, .ref z42, .ref z43, .ref z44, .ref z45, .ref z46, .ref z47, .ref z48, .int 0, .int 10, .int 0, .int 0, .int 0, .int 0, .ref z55, .ref z56, .int 0, .int 0, .ref z59, .ref z60, .ref z61, .int 0, .long 0])), (z10, .inl (γ.2.1 0, 10, .inl fa))]) 3 gw_898 gw_899 gw_900 gw_1 gw_901 hd_X11_ways hC hw (c_X11_ways γ l x x0 x1 x2 x3 x4 x5 x6 x7 x8 x9 x10 x90 x91 x92 x93 x94 x95 x96 x97 (xs 1) (xs 2) (xs 3)) ⟨by decide, by decide⟩ ⟨by decide, by decide⟩ hl.1 rfl 0 rfl rfl rfl (Nat.le_of_ble_eq_true rfl) [0, 2] [1, 3] rfl rfl rfl rfl (by decide) dL_law_772 (fun r w1 H locs hq hw => ?_)
  obtain ⟨rfl, rfl⟩ := hq
  have hw : kW γ A [(z, .inr (11, [.int 0, .int 0, .ref z2, .int 0, .int 0, .int 0, .int 0, .long 0, .int 0, .int 0, .ref z10, .ref z11, .ref z12, .ref z13, .ref z14, .ref z15, .ref z16, .ref z17, .ref z18, .ref z19, .int 0, .int 0, .ref z22, .ref z23, .ref z24, .ref z25, .ref z26, .ref z27, .ref z28, .ref z29, .ref z30, .ref z31, .ref z32, .ref z33, .int 0, .long 0, .ref z36, .ref z37, .ref z38, .ref z39, .ref z40, .ref z41, .ref z42, .ref z43, .ref z44, .ref z45, .ref z46, .ref z47, .ref z48, .int 0, .int 10, .int 0, .int 0, .int 0, .int 0, .ref z55, .ref z56, .int 0, .int 0, .ref z59, .ref z60, .ref z61, .int 0, .long 0])), (z10, .inl (γ.2.1 0, 10, .inl fa))] s H locs := hw
  refine W.eq (g2 := F0 m 775 ls [.int (-1)]) rfl ?_
  refine lv_aload_n hx hb dL_law_775 rfl (lv_at hl 2 rfl) ?_
  refine lv_aload_n hx hb dL_law_776 rfl (lv_at hl 4 rfl) ?_
  refine lv_iload hx hb dL_law_777 (lv_at hl 0 rfl) ?_
  refine lv_iconst (v := 1) hx hb dL_law_779 (by decide) ?_
  refine lv_iadd hx hb dL_law_780 ?_
  refine lv_topi (fun x_2079 ex_2079 => ?_)
  obtain rfl : x_2079 = 1 := ex_2079.trans (by decide)
  refine va_sld hx hb hX hbl hbA hw.2.2 (k_in0 (by decide)) dL_law_781 ?_
  refine lv_topi (fun x_2080 ex_2080 => ?_)
  obtain rfl : x_2080 = xs 1 := ex_2080
  refine lv_aload_n hx hb dL_law_782 rfl (lv_at hl 4 rfl) ?_
  refine lv_iload hx hb dL_law_783 (lv_at hl 0 rfl) ?_
  refine lv_iconst (v := 2) hx hb dL_law_785 (by decide) ?_
  refine lv_iadd hx hb dL_law_786 ?_
  refine lv_topi (fun x_2081 ex_2081 => ?_)
  obtain rfl : x_2081 = 2 := ex_2081.trans (by decide)
  refine va_sld hx hb hX hbl hbA hw.2.2 (k_in0 (by decide)) dL_law_787 ?_
  refine lv_topi (fun x_2082 ex_2082 => ?_)
  obtain rfl : x_2082 = xs 2 := ex_2082
  refine lv_aload_n hx hb dL_law_788 rfl (lv_at hl 4 rfl) ?_
  refine lv_iload hx hb dL_law_789 (lv_at hl 0 rfl) ?_
  refine lv_iconst (v := 3) hx hb dL_law_791 (by decide) ?_
  refine lv_iadd hx hb dL_law_792 ?_
  refine lv_topi (fun x_2083 ex_2083 => ?_)
  obtain rfl : x_2083 = 3 := ex_2083.trans (by decide)
  refine va_sld hx hb hX hbl hbA hw.2.2 (k_in0 (by decide)) dL_law_793 ?_
  refine lv_topi (fun x_2084 ex_2084 => ?_)
  obtain rfl : x_2084 = xs 3 := ex_2084
  refine k_V (wr := []) 3 gw_1692 gw_1693 gw_1694 gw_15 gw_1695 hd_X12_ways hC hw (c_X12_ways γ l z z2 z10 z11 z12 z13 z14 z15 z16 z17 z18 z19 z22 z23 z24 z25 z26 z27 z28 z29 z30 z31 z32 z33 z36 z37 z38 z39 z40 z41 z42 z43 z44 z45 z46 z47 z48 z55 z56 z59 z60 z61 fa (xs 1) (xs 2) (xs 3) ha0 ha1 ha2 ha3 ha4) ⟨by decide, by decide⟩ ⟨by decide, by decide⟩ hl.1 rfl 0 rfl rfl rfl (Nat.le_of_ble_eq_true rfl) [0, 1] [] rfl rfl rfl rfl (by decide) dL_law_794 (fun r w1 H locs hq hw => ?_)
  obtain ⟨rfl, rfl⟩ := hq
  have hw : kW γ A [] s H locs := hw
  refine W.eq (g2 := F0 m 797 ls [.int (-1), .int (-1)]) rfl ?_
  refine lv_icmp_eq (tgt := 1370) hx hb dL_law_797 (by decide) (fun _ => ?_) (fun h => absurd (by decide) h)
  exact law_end hC hr hlocks hX hbl hbA hAs hl9 _ _ (kW.sub hw [] rfl rfl) (by decide) (by decide) _ (lv_sub hl [0, 4] rfl)

set_option maxHeartbeats 4000000 in
set_option maxRecDepth 100000 in
theorem lc_14 {γ : kΓ} {l : Launch} {p : Program} {e : Env} {s : State} {m : MethodId} {below : List Frame} {meth : Method} {c : Code} {A : Nat → Prop} {b : Nat} {xs : Nat → Int32} (hC : kC γ p s m [Value.ref b].toArray c code 7 RL A) (hr : meth.sig.returnType = ret) (hlocks : meth.locks = false) (hX : va_X b 7 xs s s.heap) (hbl : b < s.heap.size) (hbA : ¬ A b) (hAs : ∀ q, A q → s.heap.size ≤ q) (hl9 : l.stackTraces = false) (x : Nat) (x0 : Nat) (x1 : Nat) (x2 : Nat) (x3 : Nat) (x4 : Nat) (x5 : Nat) (x6 : Nat) (x7 : Nat) (x8 : Nat) (x9 : Nat) (x10 : Nat) (z : Nat) (z2 : Nat) (z10 : Nat) (z11 : Nat) (z12 : Nat) (z13 : Nat) (z14 : Nat) (z15 : Nat) (z16 : Nat) (z17 : Nat) (z18 : Nat) (z19 : Nat) (z22 : Nat) (z23 : Nat) (z24 : Nat) (z25 : Nat) (z26 : Nat) (z27 : Nat) (z28 : Nat) (z29 : Nat) (z30 : Nat) (z31 : Nat) (z32 : Nat) (z33 : Nat) (z36 : Nat) (z37 : Nat) (z38 : Nat) (z39 : Nat) (z40 : Nat) (z41 : Nat) (z42 : Nat) (z43 : Nat) (z44 : Nat) (z45 : Nat) (z46 : Nat) (z47 : Nat) (z48 : Nat) (z55 : Nat) (z56 : Nat) (z59 : Nat) (z60 : Nat) (z61 : Nat) (x90 : Nat) (x91 : Nat) (x92 : Nat) (x93 : Nat) (x94 : Nat) (x95 : Nat) (x96 : Nat) (x97 : Nat) (fa : Nat → Int32) (ou : Nat) (ha0 : fa 0 = 0) (ha1 : fa 1 = 0) (ha2 : fa 2 = 10) (ha3 : fa 3 = 10) (ha4 : fa 4 = 3) (H : Heap) (locs : List Loc) (hw : kW γ A [(x, .inr (10, [.ref x0, .ref x1, .ref x2, .ref x3, .ref x4, .ref x5, .ref x6, .ref x7, .ref x8, .ref x9, .ref x10])), (z, .inr (11, [.int 0, .int 0, .ref z2, .int 0, .int 0, .int 0, .int 0, .long 0, .int 0, .int 0, .ref z10, .ref z11, .ref z12, .ref z13, .ref z14, .ref z15, .ref z16, .ref z17, .ref z18, .ref z19, .int 0, .int 0, .ref z22, .ref z23, .ref z24, .ref z25, .ref z26, .ref z27, .ref z28, .ref z29, .ref z30, .ref z31, .ref z32, .ref z33, .int 0, .long 0, .ref z36, .ref z37, .ref z38, .ref z39, .ref z40, .ref z41, .ref z42, .ref z43, .ref z44, .ref z45, .ref z46, .ref z47, .ref z48, .int 0, .int 10, .int 0, .int 0, .int 0, .int 0, .ref z55, .ref z56, .int 0, .int 0, .ref z59, .ref z60, .ref z61, .int 0, .long 0])), (x9, .inr (0, [.ref x90, .ref x91, .ref x92, .ref x93, .ref x94, .ref x95, .ref x96, .ref x97, .int 0, .int 0, .int 10, .int 10, .int 3, .int 0, .int 0, .int 0, .int 0, .int 0, .int 0])), (z10, .inl (γ.2.1 0, 10, .inl fa))] s H locs) (ls : Array Slot) (hl : lv_has ls 7 [(4, .int 0), (3, .ref ou), (2, .ref z), (1, .ref x), (0, .ref b)]) : W p l e room_1 s m [Value.ref b].toArray below meth c H locs 251 13922 (lw_Z below #[Value.ref b] s) (F0 m 802 ls []) := by
  have hx := hC.1
  have hb := hC.2.1
  refine lv_aload_n hx hb dL_law_802 rfl (lv_at hl 3 rfl) ?_
  refine lv_aload_n hx hb dL_law_803 rfl (lv_at hl 4 rfl) ?_
  refine lv_iload hx hb dL_law_804 (lv_at hl 0 rfl) ?_
  refine lv_iconst (v := 1) hx hb dL_law_806 (by decide) ?_
  refine lv_iadd hx hb dL_law_807 ?_
  refine lv_topi (fun x_2085 ex_2085 => ?_)
  obtain rfl : x_2085 = 1 := ex_2085.trans (by decide)
  refine va_sld hx hb hX hbl hbA hw.2.2 (k_in0 (by decide)) dL_law_808 ?_
  refine lv_topi (fun x_2086 ex_2086 => ?_)
  obtain rfl : x_2086 = xs 1 := ex_2086
  refine k_V (wr := [(z, .inr (11, [.int 0, .int 0, .ref z2, .int 0, .int 0, .int 0, .int 0, .long 0, .int 0, .int 0, .ref z10, .ref z11, .ref z12, .ref z13, .ref z14, .ref z15, .ref z16, .ref z17, .ref z18, .ref z19, .int 0, .int 0, .ref z22, .ref z23, .ref z24, .ref z25, .ref z26, .ref z27, .ref z28, .ref z29, .ref z30, .ref z31, .ref z32, .ref z33, .int 0, .long 0, .ref z36, .ref z37, .ref z38, .ref z39, .ref z40, .ref z41, .ref z42, .ref z43, .ref z44, .ref z45, .ref z46, .ref z47, .ref z48, .int 0, .int 10, .int 0, .int 0, .int 0, .int 0, .ref z55, .ref z56, .int 0, .int 0, .ref z59, .ref z60, .ref z61, .int 0, .long 0])), (z10, .inl (γ.2.1 0, 10, .inl fa))]) 1 gw_929 gw_930 gw_931 gw_1 gw_932 hd_X11_safe hC hw (c_X11_safe γ l x x0 x1 x2 x3 x4 x5 x6 x7 x8 x9 x10 x90 x91 x92 x93 x94 x95 x96 x97 (xs 1)) ⟨by decide, by decide⟩ ⟨by decide, by decide⟩ hl.1 rfl 0 rfl rfl rfl (Nat.le_of_ble_eq_true rfl) [0, 2] [1, 3] rfl rfl rfl rfl (by decide) dL_law_809 (fun r w1 H locs hq hw => ?_)
  obtain ⟨rfl, rfl⟩ := hq
  have hw : kW γ A [(z, .inr (11, [.int 0, .int 0, .ref z2, .int 0, .int 0, .int 0, .int 0, .long 0, .int 0, .int 0, .ref z10, .ref z11, .ref z12, .ref z13, .ref z14, .ref z15, .ref z16, .ref z17, .ref z18, .ref z19, .int 0, .int 0, .ref z22, .ref z23, .ref z24, .ref z25, .ref z26, .ref z27, .ref z28, .ref z29, .ref z30, .ref z31, .ref z32, .ref z33, .int 0, .long 0, .ref z36, .ref z37, .ref z38, .ref z39, .ref z40, .ref z41, .ref z42, .ref z43, .ref z44, .ref z45, .ref z46, .ref z47, .ref z48, .int 0, .int 10, .int 0, .int 0, .int 0, .int 0, .ref z55, .ref z56, .int 0, .int 0, .ref z59, .ref z60, .ref z61, .int 0, .long 0])), (z10, .inl (γ.2.1 0, 10, .inl fa))] s H locs := hw
  refine W.eq (g2 := F0 m 812 ls [.int (-1)]) rfl ?_
  refine lv_aload_n hx hb dL_law_812 rfl (lv_at hl 2 rfl) ?_
  refine lv_aload_n hx hb dL_law_813 rfl (lv_at hl 4 rfl) ?_
  refine lv_iload hx hb dL_law_814 (lv_at hl 0 rfl) ?_
  refine lv_iconst (v := 1) hx hb dL_law_816 (by decide) ?_
  refine lv_iadd hx hb dL_law_817 ?_
  refine lv_topi (fun x_2087 ex_2087 => ?_)
  obtain rfl : x_2087 = 1 := ex_2087.trans (by decide)
  refine va_sld hx hb hX hbl hbA hw.2.2 (k_in0 (by decide)) dL_law_818 ?_
  refine lv_topi (fun x_2088 ex_2088 => ?_)
  obtain rfl : x_2088 = xs 1 := ex_2088
  refine k_V (wr := []) 1 gw_1736 gw_1737 gw_1738 gw_15 gw_1739 hd_X12_safe hC hw (c_X12_safe γ l z z2 z10 z11 z12 z13 z14 z15 z16 z17 z18 z19 z22 z23 z24 z25 z26 z27 z28 z29 z30 z31 z32 z33 z36 z37 z38 z39 z40 z41 z42 z43 z44 z45 z46 z47 z48 z55 z56 z59 z60 z61 fa (xs 1) ha0 ha1 ha2 ha3 ha4) ⟨by decide, by decide⟩ ⟨by decide, by decide⟩ hl.1 rfl 0 rfl rfl rfl (Nat.le_of_ble_eq_true rfl) [0, 1] [] rfl rfl rfl rfl (by decide) dL_law_819 (fun r w1 H locs hq hw => ?_)
  obtain ⟨rfl, rfl⟩ := hq
  have hw : kW γ A [] s H locs := hw
  refine W.eq (g2 := F0 m 822 ls [.int (-1), .int (-1)]) rfl ?_
  refine lv_icmp_eq (tgt := 1370) hx hb dL_law_822 (by decide) (fun _ => ?_) (fun h => absurd (by decide) h)
  exact law_end hC hr hlocks hX hbl hbA hAs hl9 _ _ (kW.sub hw [] rfl rfl) (by decide) (by decide) _ (lv_sub hl [0, 4] rfl)

set_option maxHeartbeats 4000000 in
set_option maxRecDepth 100000 in
theorem lc_16 {γ : kΓ} {l : Launch} {p : Program} {e : Env} {s : State} {m : MethodId} {below : List Frame} {meth : Method} {c : Code} {A : Nat → Prop} {b : Nat} {xs : Nat → Int32} (hC : kC γ p s m [Value.ref b].toArray c code 7 RL A) (hr : meth.sig.returnType = ret) (hlocks : meth.locks = false) (hX : va_X b 7 xs s s.heap) (hbl : b < s.heap.size) (hbA : ¬ A b) (hAs : ∀ q, A q → s.heap.size ≤ q) (hl9 : l.stackTraces = false) (x : Nat) (x0 : Nat) (x1 : Nat) (x2 : Nat) (x3 : Nat) (x4 : Nat) (x5 : Nat) (x6 : Nat) (x7 : Nat) (x8 : Nat) (x9 : Nat) (x10 : Nat) (z : Nat) (z2 : Nat) (z10 : Nat) (z11 : Nat) (z12 : Nat) (z13 : Nat) (z14 : Nat) (z15 : Nat) (z16 : Nat) (z17 : Nat) (z18 : Nat) (z19 : Nat) (z22 : Nat) (z23 : Nat) (z24 : Nat) (z25 : Nat) (z26 : Nat) (z27 : Nat) (z28 : Nat) (z29 : Nat) (z30 : Nat) (z31 : Nat) (z32 : Nat) (z33 : Nat) (z36 : Nat) (z37 : Nat) (z38 : Nat) (z39 : Nat) (z40 : Nat) (z41 : Nat) (z42 : Nat) (z43 : Nat) (z44 : Nat) (z45 : Nat) (z46 : Nat) (z47 : Nat) (z48 : Nat) (z55 : Nat) (z56 : Nat) (z59 : Nat) (z60 : Nat) (z61 : Nat) (x90 : Nat) (x91 : Nat) (x92 : Nat) (x93 : Nat) (x94 : Nat) (x95 : Nat) (x96 : Nat) (x97 : Nat) (fa : Nat → Int32) (ou : Nat) (ha0 : fa 0 = 0) (ha1 : fa 1 = 0) (ha2 : fa 2 = 10) (ha3 : fa 3 = 10) (ha4 : fa 4 = 3) (H : Heap) (locs : List Loc) (hw : kW γ A [(x, .inr (10, [.ref x0, .ref x1, .ref x2, .ref x3, .ref x4, .ref x5, .ref x6, .ref x7, .ref x8, .ref x9, .ref x10])), (z, .inr (11, [.int 0, .int 0, .ref z2, .int 0, .int 0, .int 0, .int 0, .long 0, .int 0, .int 0, .ref z10, .ref z11, .ref z12, .ref z13, .ref z14, .ref z15, .ref z16, .ref z17, .ref z18, .ref z19, .int 0, .int 0, .ref z22, .ref z23, .ref z24, .ref z25, .ref z26, .ref z27, .ref z28, .ref z29, .ref z30, .ref z31, .ref z32, .ref z33, .int 0, .long 0, .ref z36, .ref z37, .ref z38, .ref z39, .ref z40, .ref z41, .ref z42, .ref z43, .ref z44, .ref z45, .ref z46, .ref z47, .ref z48, .int 0, .int 10, .int 0, .int 0, .int 0, .int 0, .ref z55, .ref z56, .int 0, .int 0, .ref z59, .ref z60, .ref z61, .int 0, .long 0])), (x9, .inr (0, [.ref x90, .ref x91, .ref x92, .ref x93, .ref x94, .ref x95, .ref x96, .ref x97, .int 0, .int 0, .int 10, .int 10, .int 3, .int 0, .int 0, .int 0, .int 0, .int 0, .int 0])), (z10, .inl (γ.2.1 0, 10, .inl fa))] s H locs) (ls : Array Slot) (hl : lv_has ls 7 [(4, .int 0), (3, .ref ou), (2, .ref z), (1, .ref x), (0, .ref b)]) : W p l e room_1 s m [Value.ref b].toArray below meth c H locs 251 13922 (lw_Z below #[Value.ref b] s) (F0 m 852 ls []) := by
  have hx := hC.1
  have hb := hC.2.1
  refine lv_aload_n hx hb dL_law_852 rfl (lv_at hl 3 rfl) ?_
  refine k_V (wr := [(z, .inr (11, [.int 0, .int 0, .ref z2, .int 0, .int 0, .int 0, .int 0, .long 0, .int 0, .int 0, .ref z10, .ref z11, .ref z12, .ref z13, .ref z14, .ref z15, .ref z16, .ref z17, .ref z18, .ref z19, .int 0, .int 0, .ref z22, .ref z23, .ref z24, .ref z25, .ref z26, .ref z27, .ref z28, .ref z29, .ref z30, .ref z31, .ref z32, .ref z33, .int 0, .long 0, .ref z36, .ref z37, .ref z38, .ref z39, .ref z40, .ref z41, .ref z42, .ref z43, .ref z44, .ref z45, .ref z46, .ref z47, .ref z48, .int 0, .int 10, .int 0, .int 0, .int 0, .int 0, .ref z55, .ref z56, .int 0, .int 0, .ref z59, .ref z60, .ref z61, .int 0, .long 0])), (z10, .inl (γ.2.1 0, 10, .inl fa))]) 0 gw_979 gw_980 gw_981 gw_1 gw_982 hd_X11_poorest hC hw (c_X11_poorest γ l x x0 x1 x2 x3 x4 x5 x6 x7 x8 x9 x10 x90 x91 x92 x93 x94 x95 x96 x97) ⟨by decide, by decide⟩ ⟨by decide, by decide⟩ hl.1 rfl 0 rfl rfl rfl (Nat.le_of_ble_eq_true rfl) [0, 2] [1, 3] rfl rfl rfl rfl (by decide) dL_law_853 (fun r w1 H locs hq hw => ?_)
  obtain ⟨rfl, rfl⟩ := hq
  have hw : kW γ A [(z, .inr (11, [.int 0, .int 0, .ref z2, .int 0, .int 0, .int 0, .int 0, .long 0, .int 0, .int 0, .ref z10, .ref z11, .ref z12, .ref z13, .ref z14, .ref z15, .ref z16, .ref z17, .ref z18, .ref z19, .int 0, .int 0, .ref z22, .ref z23, .ref z24, .ref z25, .ref z26, .ref z27, .ref z28, .ref z29, .ref z30, .ref z31, .ref z32, .ref z33, .int 0, .long 0, .ref z36, .ref z37, .ref z38, .ref z39, .ref z40, .ref z41, .ref z42, .ref z43, .ref z44, .ref z45, .ref z46, .ref z47, .ref z48, .int 0, .int 10, .int 0, .int 0, .int 0, .int 0, .ref z55, .ref z56, .int 0, .int 0, .ref z59, .ref z60, .ref z61, .int 0, .long 0])), (z10, .inl (γ.2.1 0, 10, .inl fa))] s H locs := hw
  refine W.eq (g2 := F0 m 856 ls [.int (-1)]) rfl ?_
  refine lv_aload_n hx hb dL_law_856 rfl (lv_at hl 2 rfl) ?_
  refine k_V (wr := []) 0 gw_1744 gw_1745 gw_1746 gw_15 gw_1747 hd_X12_poorest hC hw (c_X12_poorest γ l z z2 z10 z11 z12 z13 z14 z15 z16 z17 z18 z19 z22 z23 z24 z25 z26 z27 z28 z29 z30 z31 z32 z33 z36 z37 z38 z39 z40 z41 z42 z43 z44 z45 z46 z47 z48 z55 z56 z59 z60 z61 fa ha0 ha1 ha2 ha3 ha4) ⟨by decide, by decide⟩ ⟨by decide, by decide⟩ hl.1 rfl 0 rfl rfl rfl (Nat.le_of_ble_eq_true rfl) [0, 1] [] rfl rfl rfl rfl (by decide) dL_law_857 (fun r w1 H locs hq hw => ?_)
  obtain ⟨rfl, rfl⟩ := hq
  have hw : kW γ A [] s H locs := hw
  refine W.eq (g2 := F0 m 860 ls [.int (-1), .int (-1)]) rfl ?_
  refine lv_icmp_eq (tgt := 1370) hx hb dL_law_860 (by decide) (fun _ => ?_) (fun h => absurd (by decide) h)
  exact law_end hC hr hlocks hX hbl hbA hAs hl9 _ _ (kW.sub hw [] rfl rfl) (by decide) (by decide) _ (lv_sub hl [0, 4] rfl)

set_option maxHeartbeats 4000000 in
set_option maxRecDepth 100000 in
theorem lc_17 {γ : kΓ} {l : Launch} {p : Program} {e : Env} {s : State} {m : MethodId} {below : List Frame} {meth : Method} {c : Code} {A : Nat → Prop} {b : Nat} {xs : Nat → Int32} (hC : kC γ p s m [Value.ref b].toArray c code 7 RL A) (hr : meth.sig.returnType = ret) (hlocks : meth.locks = false) (hX : va_X b 7 xs s s.heap) (hbl : b < s.heap.size) (hbA : ¬ A b) (hAs : ∀ q, A q → s.heap.size ≤ q) (hl9 : l.stackTraces = false) (x : Nat) (x0 : Nat) (x1 : Nat) (x2 : Nat) (x3 : Nat) (x4 : Nat) (x5 : Nat) (x6 : Nat) (x7 : Nat) (x8 : Nat) (x9 : Nat) (x10 : Nat) (z : Nat) (z2 : Nat) (z10 : Nat) (z11 : Nat) (z12 : Nat) (z13 : Nat) (z14 : Nat) (z15 : Nat) (z16 : Nat) (z17 : Nat) (z18 : Nat) (z19 : Nat) (z22 : Nat) (z23 : Nat) (z24 : Nat) (z25 : Nat) (z26 : Nat) (z27 : Nat) (z28 : Nat) (z29 : Nat) (z30 : Nat) (z31 : Nat) (z32 : Nat) (z33 : Nat) (z36 : Nat) (z37 : Nat) (z38 : Nat) (z39 : Nat) (z40 : Nat) (z41 : Nat) (z42 : Nat) (z43 : Nat) (z44 : Nat) (z45 : Nat) (z46 : Nat) (z47 : Nat) (z48 : Nat) (z55 : Nat) (z56 : Nat) (z59 : Nat) (z60 : Nat) (z61 : Nat) (x90 : Nat) (x91 : Nat) (x92 : Nat) (x93 : Nat) (x94 : Nat) (x95 : Nat) (x96 : Nat) (x97 : Nat) (fa : Nat → Int32) (ou : Nat) (ha0 : fa 0 = 0) (ha1 : fa 1 = 0) (ha2 : fa 2 = 10) (ha3 : fa 3 = 10) (ha4 : fa 4 = 3) (H : Heap) (locs : List Loc) (hw : kW γ A [(x, .inr (10, [.ref x0, .ref x1, .ref x2, .ref x3, .ref x4, .ref x5, .ref x6, .ref x7, .ref x8, .ref x9, .ref x10])), (z, .inr (11, [.int 0, .int 0, .ref z2, .int 0, .int 0, .int 0, .int 0, .long 0, .int 0, .int 0, .ref z10, .ref z11, .ref z12, .ref z13, .ref z14, .ref z15, .ref z16, .ref z17, .ref z18, .ref z19, .int 0, .int 0, .ref z22, .ref z23, .ref z24, .ref z25, .ref z26, .ref z27, .ref z28, .ref z29, .ref z30, .ref z31, .ref z32, .ref z33, .int 0, .long 0, .ref z36, .ref z37, .ref z38, .ref z39, .ref z40, .ref z41, .ref z42, .ref z43, .ref z44, .ref z45, .ref z46, .ref z47, .ref z48, .int 0, .int 10, .int 0, .int 0, .int 0, .int 0, .ref z55, .ref z56, .int 0, .int 0, .ref z59, .ref z60, .ref z61, .int 0, .long 0])), (x9, .inr (0, [.ref x90, .ref x91, .ref x92, .ref x93, .ref x94, .ref x95, .ref x96, .ref x97, .int 0, .int 0, .int 10, .int 10, .int 3, .int 0, .int 0, .int 0, .int 0, .int 0, .int 0])), (z10, .inl (γ.2.1 0, 10, .inl fa))] s H locs) (ls : Array Slot) (hl : lv_has ls 7 [(4, .int 0), (3, .ref ou), (2, .ref z), (1, .ref x), (0, .ref b)]) : W p l e room_1 s m [Value.ref b].toArray below meth c H locs 251 13922 (lw_Z below #[Value.ref b] s) (F0 m 865 ls []) := by
  have hx := hC.1
  have hb := hC.2.1
  refine lv_aload_n hx hb dL_law_865 rfl (lv_at hl 3 rfl) ?_
  refine k_V (wr := [(z, .inr (11, [.int 0, .int 0, .ref z2, .int 0, .int 0, .int 0, .int 0, .long 0, .int 0, .int 0, .ref z10, .ref z11, .ref z12, .ref z13, .ref z14, .ref z15, .ref z16, .ref z17, .ref z18, .ref z19, .int 0, .int 0, .ref z22, .ref z23, .ref z24, .ref z25, .ref z26, .ref z27, .ref z28, .ref z29, .ref z30, .ref z31, .ref z32, .ref z33, .int 0, .long 0, .ref z36, .ref z37, .ref z38, .ref z39, .ref z40, .ref z41, .ref z42, .ref z43, .ref z44, .ref z45, .ref z46, .ref z47, .ref z48, .int 0, .int 10, .int 0, .int 0, .int 0, .int 0, .ref z55, .ref z56, .int 0, .int 0, .ref z59, .ref z60, .ref z61, .int 0, .long 0])), (z10, .inl (γ.2.1 0, 10, .inl fa))]) 0 gw_954 gw_955 gw_956 gw_1 gw_957 hd_X11_lacks hC hw (c_X11_lacks γ l x x0 x1 x2 x3 x4 x5 x6 x7 x8 x9 x10 x90 x91 x92 x93 x94 x95 x96 x97) ⟨by decide, by decide⟩ ⟨by decide, by decide⟩ hl.1 rfl 0 rfl rfl rfl (Nat.le_of_ble_eq_true rfl) [0, 2] [1, 3] rfl rfl rfl rfl (by decide) dL_law_866 (fun r w1 H locs hq hw => ?_)
  obtain ⟨rfl, rfl⟩ := hq
  have hw : kW γ A [(z, .inr (11, [.int 0, .int 0, .ref z2, .int 0, .int 0, .int 0, .int 0, .long 0, .int 0, .int 0, .ref z10, .ref z11, .ref z12, .ref z13, .ref z14, .ref z15, .ref z16, .ref z17, .ref z18, .ref z19, .int 0, .int 0, .ref z22, .ref z23, .ref z24, .ref z25, .ref z26, .ref z27, .ref z28, .ref z29, .ref z30, .ref z31, .ref z32, .ref z33, .int 0, .long 0, .ref z36, .ref z37, .ref z38, .ref z39, .ref z40, .ref z41, .ref z42, .ref z43, .ref z44, .ref z45, .ref z46, .ref z47, .ref z48, .int 0, .int 10, .int 0, .int 0, .int 0, .int 0, .ref z55, .ref z56, .int 0, .int 0, .ref z59, .ref z60, .ref z61, .int 0, .long 0])), (z10, .inl (γ.2.1 0, 10, .inl fa)), (x, .inr (10, [.ref x0, .ref x1, .ref x2, .ref x3, .ref x4, .ref x5, .ref x6, .ref x7, .ref x8, .ref x9, .ref x10])), (x9, .inr (0, [.ref x90, .ref x91, .ref x92, .ref x93, .ref x94, .ref x95, .ref x96, .ref x97, .int 0, .int 0, .int 10, .int 10, .int 3, .int 0, .int 0, .int 0, .int 0, .int 0, .int 0]))] s H locs := hw
  refine W.eq (g2 := F0 m 869 ls [.int 7]) rfl ?_
  refine lv_aload_n hx hb dL_law_869 rfl (lv_at hl 2 rfl) ?_
  refine k_V (wr := [(x, .inr (10, [.ref x0, .ref x1, .ref x2, .ref x3, .ref x4, .ref x5, .ref x6, .ref x7, .ref x8, .ref x9, .ref x10])), (x9, .inr (0, [.ref x90, .ref x91, .ref x92, .ref x93, .ref x94, .ref x95, .ref x96, .ref x97, .int 0, .int 0, .int 10, .int 10, .int 3, .int 0, .int 0, .int 0, .int 0, .int 0, .int 0]))]) 0 gw_1708 gw_1709 gw_1710 gw_15 gw_1711 hd_X12_lacks hC hw (c_X12_lacks γ l z z2 z10 z11 z12 z13 z14 z15 z16 z17 z18 z19 z22 z23 z24 z25 z26 z27 z28 z29 z30 z31 z32 z33 z36 z37 z38 z39 z40 z41 z42 z43 z44 z45 z46 z47 z48 z55 z56 z59 z60 z61 fa ha0 ha1 ha2 ha3 ha4) ⟨by decide, by decide⟩ ⟨by decide, by decide⟩ hl.1 rfl 0 rfl rfl rfl (Nat.le_of_ble_eq_true rfl) [0, 1] [2, 3] rfl rfl rfl rfl (by decide) dL_law_870 (fun r w1 H locs hq hw => ?_)
  obtain ⟨rfl, rfl⟩ := hq
  have hw : kW γ A [(x, .inr (10, [.ref x0, .ref x1, .ref x2, .ref x3, .ref x4, .ref x5, .ref x6, .ref x7, .ref x8, .ref x9, .ref x10])), (x9, .inr (0, [.ref x90, .ref x91, .ref x92, .ref x93, .ref x94, .ref x95, .ref x96, .ref x97, .int 0, .int 0, .int 10, .int 10, .int 3, .int 0, .int 0, .int 0, .int 0, .int 0, .int 0]))] s H locs := hw
  refine W.eq (g2 := F0 m 873 ls [.int 7, .int 7]) rfl ?_
  refine lv_icmp_eq (tgt := 1370) hx hb dL_law_873 (by decide) (fun _ => ?_) (fun h => absurd (by decide) h)
  exact law_end hC hr hlocks hX hbl hbA hAs hl9 _ _ (kW.sub hw [] rfl rfl) (by decide) (by decide) _ (lv_sub hl [0, 4] rfl)

set_option maxHeartbeats 4000000 in
set_option maxRecDepth 100000 in
theorem lc_18 {γ : kΓ} {l : Launch} {p : Program} {e : Env} {s : State} {m : MethodId} {below : List Frame} {meth : Method} {c : Code} {A : Nat → Prop} {b : Nat} {xs : Nat → Int32} (hC : kC γ p s m [Value.ref b].toArray c code 7 RL A) (hr : meth.sig.returnType = ret) (hlocks : meth.locks = false) (hX : va_X b 7 xs s s.heap) (hbl : b < s.heap.size) (hbA : ¬ A b) (hAs : ∀ q, A q → s.heap.size ≤ q) (hl9 : l.stackTraces = false) (x : Nat) (x0 : Nat) (x1 : Nat) (x2 : Nat) (x3 : Nat) (x4 : Nat) (x5 : Nat) (x6 : Nat) (x7 : Nat) (x8 : Nat) (x9 : Nat) (x10 : Nat) (z : Nat) (z2 : Nat) (z10 : Nat) (z11 : Nat) (z12 : Nat) (z13 : Nat) (z14 : Nat) (z15 : Nat) (z16 : Nat) (z17 : Nat) (z18 : Nat) (z19 : Nat) (z22 : Nat) (z23 : Nat) (z24 : Nat) (z25 : Nat) (z26 : Nat) (z27 : Nat) (z28 : Nat) (z29 : Nat) (z30 : Nat) (z31 : Nat) (z32 : Nat) (z33 : Nat) (z36 : Nat) (z37 : Nat) (z38 : Nat) (z39 : Nat) (z40 : Nat) (z41 : Nat) (z42 : Nat) (z43 : Nat) (z44 : Nat) (z45 : Nat) (z46 : Nat) (z47 : Nat) (z48 : Nat) (z55 : Nat) (z56 : Nat) (z59 : Nat) (z60 : Nat) (z61 : Nat) (x90 : Nat) (x91 : Nat) (x92 : Nat) (x93 : Nat) (x94 : Nat) (x95 : Nat) (x96 : Nat) (x97 : Nat) (x2s : Nat) (x2y : Nat) (x2q : Nat) (x2s_l : Nat) (x2s_c : Nat) (x2s_g : Nat) (x2s_r : Nat) (x2s_k : Nat) (x2s_b : Nat) (fa : Nat → Int32) (ou : Nat) (ha0 : fa 0 = 0) (ha1 : fa 1 = 0) (ha2 : fa 2 = 10) (ha3 : fa 3 = 10) (ha4 : fa 4 = 3) (H : Heap) (locs : List Loc) (hw : kW γ A [(x, .inr (10, [.ref x0, .ref x1, .ref x2, .ref x3, .ref x4, .ref x5, .ref x6, .ref x7, .ref x8, .ref x9, .ref x10])), (z, .inr (11, [.int 0, .int 0, .ref z2, .int 0, .int 0, .int 0, .int 0, .long 0, .int 0, .int 0, .ref z10, .ref z11, .ref z12, .ref z13, .ref z14, .ref z15, .ref z16, .ref z17, .ref z18, .ref z19, .int 0, .int 0, .ref z22, .ref z23, .ref z24, .ref z25, .ref z26, .ref z27, .ref z28, .ref z29, .ref z30, .ref z31, .ref z32, .ref z33, .int 0, .long 0, .ref z36, .ref z37, .ref z38, .ref z39, .ref z40, .ref z41, .ref z42, .ref z43, .ref z44, .ref z45, .ref z46, .ref z47, .ref z48, .int 0, .int 10, .int 0, .int 0, .int 0, .int 0, .ref z55, .ref z56, .int 0, .int 0, .ref z59, .ref z60, .ref z61, .int 0, .long 0])), (x9, .inr (0, [.ref x90, .ref x91, .ref x92, .ref x93, .ref x94, .ref x95, .ref x96, .ref x97, .int 0, .int 0, .int 10, .int 10, .int 3, .int 0, .int 0, .int 0, .int 0, .int 0, .int 0])), (x2, .inr (3, [.ref x2s, .ref x2y, .ref x2q, .int 0, .int 0, .int 0])), (x2s, .inr (7, [.ref x2s_l, .ref x2s_c, .ref x2s_g, .ref x2s_r, .ref x2s_k, .ref x2s_b, .int 0, .int 0, .int 0])), (z10, .inl (γ.2.1 0, 10, .inl fa))] s H locs) (ls : Array Slot) (hl : lv_has ls 7 [(4, .int 0), (3, .ref ou), (2, .ref z), (1, .ref x), (0, .ref b)]) : W p l e room_1 s m [Value.ref b].toArray below meth c H locs 251 13922 (lw_Z below #[Value.ref b] s) (F0 m 878 ls []) := by
  have hx := hC.1
  have hb := hC.2.1
  refine lv_aload_n hx hb dL_law_878 rfl (lv_at hl 3 rfl) ?_
  refine k_V (wr := [(z, .inr (11, [.int 0, .int 0, .ref z2, .int 0, .int 0, .int 0, .int 0, .long 0, .int 0, .int 0, .ref z10, .ref z11, .ref z12, .ref z13, .ref z14, .ref z15, .ref z16, .ref z17, .ref z18, .ref z19, .int 0, .int 0, .ref z22, .ref z23, .ref z24, .ref z25, .ref z26, .ref z27, .ref z28, .ref z29, .ref z30, .ref z31, .ref z32, .ref z33, .int 0, .long 0, .ref z36, .ref z37, .ref z38, .ref z39, .ref z40, .ref z41, .ref z42, .ref z43, .ref z44, .ref z45, .ref z46, .ref z47, .ref z48, .int 0, .int 10, .int 0, .int 0, .int 0, .int 0, .ref z55, .ref z56, .int 0, .int 0, .ref z59, .ref z60, .ref z61, .int 0, .long 0])), (z10, .inl (γ.2.1 0, 10, .inl fa))]) 0 gw_962 gw_963 gw_964 gw_1 gw_965 hd_X11_givers hC hw (c_X11_givers γ l x x0 x1 x2 x3 x4 x5 x6 x7 x8 x9 x10 x90 x91 x92 x93 x94 x95 x96 x97 x2s x2y x2q x2s_l x2s_c x2s_g x2s_r x2s_k x2s_b) ⟨by decide, by decide⟩ ⟨by decide, by decide⟩ hl.1 rfl 0 rfl rfl rfl (Nat.le_of_ble_eq_true rfl) [0, 2, 3, 4] [1, 5] rfl rfl rfl rfl (by decide) dL_law_879 (fun r w1 H locs hq hw => ?_)
  obtain ⟨rfl, rfl⟩ := hq
  have hw : kW γ A [(z, .inr (11, [.int 0, .int 0, .ref z2, .int 0, .int 0, .int 0, .int 0, .long 0, .int 0, .int 0, .ref z10, .ref z11, .ref z12, .ref z13, .ref z14, .ref z15, .ref z16, .ref z17, .ref z18, .ref z19, .int 0, .int 0, .ref z22, .ref z23, .ref z24, .ref z25, .ref z26, .ref z27, .ref z28, .ref z29, .ref z30, .ref z31, .ref z32, .ref z33, .int 0, .long 0, .ref z36, .ref z37, .ref z38, .ref z39, .ref z40, .ref z41, .ref z42, .ref z43, .ref z44, .ref z45, .ref z46, .ref z47, .ref z48, .int 0, .int 10, .int 0, .int 0, .int 0, .int 0, .ref z55, .ref z56, .int 0, .int 0, .ref z59, .ref z60, .ref z61, .int 0, .long 0])), (z10, .inl (γ.2.1 0, 10, .inl fa))] s H locs := hw
  refine W.eq (g2 := F0 m 882 ls [.int (-1)]) rfl ?_
  refine lv_aload_n hx hb dL_law_882 rfl (lv_at hl 2 rfl) ?_
  refine k_V (wr := []) 0 gw_1716 gw_1717 gw_1718 gw_15 gw_1719 hd_X12_givers hC hw (c_X12_givers γ l z z2 z10 z11 z12 z13 z14 z15 z16 z17 z18 z19 z22 z23 z24 z25 z26 z27 z28 z29 z30 z31 z32 z33 z36 z37 z38 z39 z40 z41 z42 z43 z44 z45 z46 z47 z48 z55 z56 z59 z60 z61 fa ha0 ha1 ha2 ha3 ha4) ⟨by decide, by decide⟩ ⟨by decide, by decide⟩ hl.1 rfl 0 rfl rfl rfl (Nat.le_of_ble_eq_true rfl) [0, 1] [] rfl rfl rfl rfl (by decide) dL_law_883 (fun r w1 H locs hq hw => ?_)
  obtain ⟨rfl, rfl⟩ := hq
  have hw : kW γ A [] s H locs := hw
  refine W.eq (g2 := F0 m 886 ls [.int (-1), .int (-1)]) rfl ?_
  refine lv_icmp_eq (tgt := 1370) hx hb dL_law_886 (by decide) (fun _ => ?_) (fun h => absurd (by decide) h)
  exact law_end hC hr hlocks hX hbl hbA hAs hl9 _ _ (kW.sub hw [] rfl rfl) (by decide) (by decide) _ (lv_sub hl [0, 4] rfl)

set_option maxHeartbeats 4000000 in
set_option maxRecDepth 100000 in
theorem lc_19 {γ : kΓ} {l : Launch} {p : Program} {e : Env} {s : State} {m : MethodId} {below : List Frame} {meth : Method} {c : Code} {A : Nat → Prop} {b : Nat} {xs : Nat → Int32} (hC : kC γ p s m [Value.ref b].toArray c code 7 RL A) (hr : meth.sig.returnType = ret) (hlocks : meth.locks = false) (hX : va_X b 7 xs s s.heap) (hbl : b < s.heap.size) (hbA : ¬ A b) (hAs : ∀ q, A q → s.heap.size ≤ q) (hl9 : l.stackTraces = false) (x : Nat) (x0 : Nat) (x1 : Nat) (x2 : Nat) (x3 : Nat) (x4 : Nat) (x5 : Nat) (x6 : Nat) (x7 : Nat) (x8 : Nat) (x9 : Nat) (x10 : Nat) (z : Nat) (z2 : Nat) (z10 : Nat) (z11 : Nat) (z12 : Nat) (z13 : Nat) (z14 : Nat) (z15 : Nat) (z16 : Nat) (z17 : Nat) (z18 : Nat) (z19 : Nat) (z22 : Nat) (z23 : Nat) (z24 : Nat) (z25 : Nat) (z26 : Nat) (z27 : Nat) (z28 : Nat) (z29 : Nat) (z30 : Nat) (z31 : Nat) (z32 : Nat) (z33 : Nat) (z36 : Nat) (z37 : Nat) (z38 : Nat) (z39 : Nat) (z40 : Nat) (z41 : Nat) (z42 : Nat) (z43 : Nat) (z44 : Nat) (z45 : Nat) (z46 : Nat) (z47 : Nat) (z48 : Nat) (z55 : Nat) (z56 : Nat) (z59 : Nat) (z60 : Nat) (z61 : Nat) (x90 : Nat) (x91 : Nat) (x92 : Nat) (x93 : Nat) (x94 : Nat) (x95 : Nat) (x96 : Nat) (x97 : Nat) (fa : Nat → Int32) (ou : Nat) (ha0 : fa 0 = 0) (ha1 : fa 1 = 0) (ha2 : fa 2 = 10) (ha3 : fa 3 = 10) (ha4 : fa 4 = 3) (H : Heap) (locs : List Loc) (hw : kW γ A [(x, .inr (10, [.ref x0, .ref x1, .ref x2, .ref x3, .ref x4, .ref x5, .ref x6, .ref x7, .ref x8, .ref x9, .ref x10])), (z, .inr (11, [.int 0, .int 0, .ref z2, .int 0, .int 0, .int 0, .int 0, .long 0, .int 0, .int 0, .ref z10, .ref z11, .ref z12, .ref z13, .ref z14, .ref z15, .ref z16, .ref z17, .ref z18, .ref z19, .int 0, .int 0, .ref z22, .ref z23, .ref z24, .ref z25, .ref z26, .ref z27, .ref z28, .ref z29, .ref z30, .ref z31, .ref z32, .ref z33, .int 0, .long 0, .ref z36, .ref z37, .ref z38, .ref z39, .ref z40, .ref z41, .ref z42, .ref z43, .ref z44, .ref z45, .ref z46, .ref z47, .ref z48, .int 0, .int 10, .int 0, .int 0, .int 0, .int 0, .ref z55, .ref z56, .int 0, .int 0, .ref z59, .ref z60, .ref z61, .int 0, .long 0])), (x9, .inr (0, [.ref x90, .ref x91, .ref x92, .ref x93, .ref x94, .ref x95, .ref x96, .ref x97, .int 0, .int 0, .int 10, .int 10, .int 3, .int 0, .int 0, .int 0, .int 0, .int 0, .int 0])), (z10, .inl (γ.2.1 0, 10, .inl fa))] s H locs) (ls : Array Slot) (hl : lv_has ls 7 [(4, .int 0), (3, .ref ou), (2, .ref z), (1, .ref x), (0, .ref b)]) : W p l e room_1 s m [Value.ref b].toArray below meth c H locs 251 13922 (lw_Z below #[Value.ref b] s) (F0 m 891 ls []) := by
  have hx := hC.1
  have hb := hC.2.1
  refine lv_aload_n hx hb dL_law_891 rfl (lv_at hl 3 rfl) ?_
  refine lv_aload_n hx hb dL_law_892 rfl (lv_at hl 4 rfl) ?_
  refine lv_iload hx hb dL_law_893 (lv_at hl 0 rfl) ?_
  refine lv_iconst (v := 1) hx hb dL_law_895 (by decide) ?_
  refine lv_iadd hx hb dL_law_896 ?_
  refine lv_topi (fun x_2089 ex_2089 => ?_)
  obtain rfl : x_2089 = 1 := ex_2089.trans (by decide)
  refine va_sld hx hb hX hbl hbA hw.2.2 (k_in0 (by decide)) dL_law_897 ?_
  refine lv_topi (fun x_2090 ex_2090 => ?_)
  obtain rfl : x_2090 = xs 1 := ex_2090
  refine k_V (wr := [(z, .inr (11, [.int 0, .int 0, .ref z2, .int 0, .int 0, .int 0, .int 0, .long 0, .int 0, .int 0, .ref z10, .ref z11, .ref z12, .ref z13, .ref z14, .ref z15, .ref z16, .ref z17, .ref z18, .ref z19, .int 0, .int 0, .ref z22, .ref z23, .ref z24, .ref z25, .ref z26, .ref z27, .ref z28, .ref z29, .ref z30, .ref z31, .ref z32, .ref z33, .int 0, .long 0, .ref z36, .ref z37, .ref z38, .ref z39, .ref z40, .ref z41, .ref z42, .ref z43, .ref z44, .ref z45, .ref z46, .ref z47, .ref z48, .int 0, .int 10, .int 0, .int 0, .int 0, .int 0, .ref z55, .ref z56, .int 0, .int 0, .ref z59, .ref z60, .ref z61, .int 0, .long 0])), (z10, .inl (γ.2.1 0, 10, .inl fa))]) 1 gw_971 gw_972 gw_973 gw_1 gw_974 hd_X11_dowry hC hw (c_X11_dowry γ l x x0 x1 x2 x3 x4 x5 x6 x7 x8 x9 x10 x90 x91 x92 x93 x94 x95 x96 x97 (xs 1)) ⟨by decide, by decide⟩ ⟨by decide, by decide⟩ hl.1 rfl 0 rfl rfl rfl (Nat.le_of_ble_eq_true rfl) [0, 2] [1, 3] rfl rfl rfl rfl (by decide) dL_law_898 (fun r w1 H locs hq hw => ?_)
  obtain ⟨rfl, rfl⟩ := hq
  have hw : kW γ A [(z, .inr (11, [.int 0, .int 0, .ref z2, .int 0, .int 0, .int 0, .int 0, .long 0, .int 0, .int 0, .ref z10, .ref z11, .ref z12, .ref z13, .ref z14, .ref z15, .ref z16, .ref z17, .ref z18, .ref z19, .int 0, .int 0, .ref z22, .ref z23, .ref z24, .ref z25, .ref z26, .ref z27, .ref z28, .ref z29, .ref z30, .ref z31, .ref z32, .ref z33, .int 0, .long 0, .ref z36, .ref z37, .ref z38, .ref z39, .ref z40, .ref z41, .ref z42, .ref z43, .ref z44, .ref z45, .ref z46, .ref z47, .ref z48, .int 0, .int 10, .int 0, .int 0, .int 0, .int 0, .ref z55, .ref z56, .int 0, .int 0, .ref z59, .ref z60, .ref z61, .int 0, .long 0])), (z10, .inl (γ.2.1 0, 10, .inl fa))] s H locs := hw
  refine W.eq (g2 := F0 m 901 ls [.int (-1)]) rfl ?_
  refine lv_aload_n hx hb dL_law_901 rfl (lv_at hl 2 rfl) ?_
  refine lv_aload_n hx hb dL_law_902 rfl (lv_at hl 4 rfl) ?_
  refine lv_iload hx hb dL_law_903 (lv_at hl 0 rfl) ?_
  refine lv_iconst (v := 1) hx hb dL_law_905 (by decide) ?_
  refine lv_iadd hx hb dL_law_906 ?_
  refine lv_topi (fun x_2091 ex_2091 => ?_)
  obtain rfl : x_2091 = 1 := ex_2091.trans (by decide)
  refine va_sld hx hb hX hbl hbA hw.2.2 (k_in0 (by decide)) dL_law_907 ?_
  refine lv_topi (fun x_2092 ex_2092 => ?_)
  obtain rfl : x_2092 = xs 1 := ex_2092
  refine k_V (wr := []) 1 gw_1728 gw_1729 gw_1730 gw_15 gw_1731 hd_X12_dowry hC hw (c_X12_dowry γ l z z2 z10 z11 z12 z13 z14 z15 z16 z17 z18 z19 z22 z23 z24 z25 z26 z27 z28 z29 z30 z31 z32 z33 z36 z37 z38 z39 z40 z41 z42 z43 z44 z45 z46 z47 z48 z55 z56 z59 z60 z61 fa (xs 1) ha0 ha1 ha2 ha3 ha4) ⟨by decide, by decide⟩ ⟨by decide, by decide⟩ hl.1 rfl 0 rfl rfl rfl (Nat.le_of_ble_eq_true rfl) [0, 1] [] rfl rfl rfl rfl (by decide) dL_law_908 (fun r w1 H locs hq hw => ?_)
  obtain ⟨rfl, rfl⟩ := hq
  have hw : kW γ A [] s H locs := hw
  refine W.eq (g2 := F0 m 911 ls [.int (-1), .int (-1)]) rfl ?_
  refine lv_icmp_eq (tgt := 1370) hx hb dL_law_911 (by decide) (fun _ => ?_) (fun h => absurd (by decide) h)
  exact law_end hC hr hlocks hX hbl hbA hAs hl9 _ _ (kW.sub hw [] rfl rfl) (by decide) (by decide) _ (lv_sub hl [0, 4] rfl)

set_option maxHeartbeats 4000000 in
set_option maxRecDepth 100000 in
theorem lc_21 {γ : kΓ} {l : Launch} {p : Program} {e : Env} {s : State} {m : MethodId} {below : List Frame} {meth : Method} {c : Code} {A : Nat → Prop} {b : Nat} {xs : Nat → Int32} (hC : kC γ p s m [Value.ref b].toArray c code 7 RL A) (hr : meth.sig.returnType = ret) (hlocks : meth.locks = false) (hX : va_X b 7 xs s s.heap) (hbl : b < s.heap.size) (hbA : ¬ A b) (hAs : ∀ q, A q → s.heap.size ≤ q) (hl9 : l.stackTraces = false) (x : Nat) (x0 : Nat) (x1 : Nat) (x2 : Nat) (x3 : Nat) (x4 : Nat) (x5 : Nat) (x6 : Nat) (x7 : Nat) (x8 : Nat) (x9 : Nat) (x10 : Nat) (z : Nat) (z2 : Nat) (z10 : Nat) (z11 : Nat) (z12 : Nat) (z13 : Nat) (z14 : Nat) (z15 : Nat) (z16 : Nat) (z17 : Nat) (z18 : Nat) (z19 : Nat) (z22 : Nat) (z23 : Nat) (z24 : Nat) (z25 : Nat) (z26 : Nat) (z27 : Nat) (z28 : Nat) (z29 : Nat) (z30 : Nat) (z31 : Nat) (z32 : Nat) (z33 : Nat) (z36 : Nat) (z37 : Nat) (z38 : Nat) (z39 : Nat) (z40 : Nat) (z41 : Nat) (z42 : Nat) (z43 : Nat) (z44 : Nat) (z45 : Nat) (z46 : Nat) (z47 : Nat) (z48 : Nat) (z55 : Nat) (z56 : Nat) (z59 : Nat) (z60 : Nat) (z61 : Nat) (x90 : Nat) (x91 : Nat) (x92 : Nat) (x93 : Nat) (x94 : Nat) (x95 : Nat) (x96 : Nat) (x97 : Nat) (fa : Nat → Int32) (ou : Nat) (ha0 : fa 0 = 0) (ha1 : fa 1 = 0) (ha2 : fa 2 = 10) (ha3 : fa 3 = 10) (ha4 : fa 4 = 3) (H : Heap) (locs : List Loc) (hw : kW γ A [(x, .inr (10, [.ref x0, .ref x1, .ref x2, .ref x3, .ref x4, .ref x5, .ref x6, .ref x7, .ref x8, .ref x9, .ref x10])), (z, .inr (11, [.int 0, .int 0, .ref z2, .int 0, .int 0, .int 0, .int 0, .long 0, .int 0, .int 0, .ref z10, .ref z11, .ref z12, .ref z13, .ref z14, .ref z15, .ref z16, .ref z17, .ref z18, .ref z19, .int 0, .int 0, .ref z22, .ref z23, .ref z24, .ref z25, .ref z26, .ref z27, .ref z28, .ref z29, .ref z30, .ref z31, .ref z32, .ref z33, .int 0, .long 0, .ref z36, .ref z37, .ref z38, .ref z39, .ref z40, .ref z41, .ref z42, .ref z43, .ref z44, .ref z45, .ref z46, .ref z47, .ref z48, .int 0, .int 10, .int 0, .int 0, .int 0, .int 0, .ref z55, .ref z56, .int 0, .int 0, .ref z59, .ref z60, .ref z61, .int 0, .long 0])), (x9, .inr (0, [.ref x90, .ref x91, .ref x92, .ref x93, .ref x94, .ref x95, .ref x96, .ref x97, .int 0, .int 0, .int 10, .int 10, .int 3, .int 0, .int 0, .int 0, .int 0, .int 0, .int 0])), (z10, .inl (γ.2.1 0, 10, .inl fa))] s H locs) (ls : Array Slot) (hl : lv_has ls 7 [(4, .int 0), (3, .ref ou), (2, .ref z), (1, .ref x), (0, .ref b)]) : W p l e room_1 s m [Value.ref b].toArray below meth c H locs 251 13922 (lw_Z below #[Value.ref b] s) (F0 m 941 ls []) := by
  have hx := hC.1
  have hb := hC.2.1
  refine lv_aload_n hx hb dL_law_941 rfl (lv_at hl 3 rfl) ?_
  refine lv_aload_n hx hb dL_law_942 rfl (lv_at hl 4 rfl) ?_
  refine lv_iload hx hb dL_law_943 (lv_at hl 0 rfl) ?_
  refine lv_iconst (v := 1) hx hb dL_law_945 (by decide) ?_
  refine lv_iadd hx hb dL_law_946 ?_
  refine lv_topi (fun x_2093 ex_2093 => ?_)
  obtain rfl : x_2093 = 1 := ex_2093.trans (by decide)
  refine va_sld hx hb hX hbl hbA hw.2.2 (k_in0 (by decide)) dL_law_947 ?_
  refine lv_topi (fun x_2094 ex_2094 => ?_)
  obtain rfl : x_2094 = xs 1 := ex_2094
  refine lv_aload_n hx hb dL_law_948 rfl (lv_at hl 4 rfl) ?_
  refine lv_iload hx hb dL_law_949 (lv_at hl 0 rfl) ?_
  refine lv_iconst (v := 2) hx hb dL_law_951 (by decide) ?_
  refine lv_iadd hx hb dL_law_952 ?_
  refine lv_topi (fun x_2095 ex_2095 => ?_)
  obtain rfl : x_2095 = 2 := ex_2095.trans (by decide)
  refine va_sld hx hb hX hbl hbA hw.2.2 (k_in0 (by decide)) dL_law_953 ?_
  refine lv_topi (fun x_2096 ex_2096 => ?_)
  obtain rfl : x_2096 = xs 2 := ex_2096
  refine lv_if_eq (tgt := 961) hx hb dL_law_954 (by decide) (fun c_2097 => ?_) (fun c_2097 => ?_)
  · refine lv_iconst (v := 0) hx hb dL_law_961 (by decide) ?_
    refine k_V (wr := [(z, .inr (11, [.int 0, .int 0, .ref z2, .int 0, .int 0, .int 0, .int 0, .long 0, .int 0, .int 0, .ref z10, .ref z11, .ref z12, .ref z13, .ref z14, .ref z15, .ref z16, .ref z17, .ref z18, .ref z19, .int 0, .int 0, .ref z22, .ref z23, .ref z24, .ref z25, .ref z26, .ref z27, .ref z28, .ref z29, .ref z30, .ref z31, .ref z32, .ref z33, .int 0, .long 0, .ref z36, .ref z37, .ref z38, .ref z39, .ref z40, .ref z41, .ref z42, .ref z43, .ref z44, .ref z45, .ref z46, .ref z47, .ref z48, .int 0, .int 10, .int 0, .int 0, .int 0, .int 0, .ref z55, .ref z56, .int 0, .int 0, .ref z59, .ref z60, .ref z61, .int 0, .long 0])), (z10, .inl (γ.2.1 0, 10, .inl fa))]) 2 gw_998 gw_999 gw_1000 gw_1 gw_1001 hd_X11_guess hC hw (c_X11_guess γ l x x0 x1 x2 x3 x4 x5 x6 x7 x8 x9 x10 x90 x91 x92 x93 x94 x95 x96 x97 (xs 1) 0) ⟨by decide, by decide⟩ ⟨by decide, by decide⟩ hl.1 rfl 0 rfl rfl rfl (Nat.le_of_ble_eq_true rfl) [0, 2] [1, 3] rfl rfl rfl rfl (by decide) dL_law_962 (fun r w1 H locs hq hw => ?_)
    obtain ⟨rfl, rfl⟩ := hq
    have hw : kW γ A [(z, .inr (11, [.int 0, .int 0, .ref z2, .int 0, .int 0, .int 0, .int 0, .long 0, .int 0, .int 0, .ref z10, .ref z11, .ref z12, .ref z13, .ref z14, .ref z15, .ref z16, .ref z17, .ref z18, .ref z19, .int 0, .int 0, .ref z22, .ref z23, .ref z24, .ref z25, .ref z26, .ref z27, .ref z28, .ref z29, .ref z30, .ref z31, .ref z32, .ref z33, .int 0, .long 0, .ref z36, .ref z37, .ref z38, .ref z39, .ref z40, .ref z41, .ref z42, .ref z43, .ref z44, .ref z45, .ref z46, .ref z47, .ref z48, .int 0, .int 10, .int 0, .int 0, .int 0, .int 0, .ref z55, .ref z56, .int 0, .int 0, .ref z59, .ref z60, .ref z61, .int 0, .long 0])), (z10, .inl (γ.2.1 0, 10, .inl fa))] s H locs := hw
    refine W.eq (g2 := F0 m 965 ls [.int 0]) rfl ?_
    refine lv_aload_n hx hb dL_law_965 rfl (lv_at hl 2 rfl) ?_
    refine lv_aload_n hx hb dL_law_966 rfl (lv_at hl 4 rfl) ?_
    refine lv_iload hx hb dL_law_967 (lv_at hl 0 rfl) ?_
    refine lv_iconst (v := 1) hx hb dL_law_969 (by decide) ?_
    refine lv_iadd hx hb dL_law_970 ?_
    refine lv_topi (fun x_2098 ex_2098 => ?_)
    obtain rfl : x_2098 = 1 := ex_2098.trans (by decide)
    refine va_sld hx hb hX hbl hbA hw.2.2 (k_in0 (by decide)) dL_law_971 ?_
    refine lv_topi (fun x_2099 ex_2099 => ?_)
    obtain rfl : x_2099 = xs 1 := ex_2099
    refine lv_aload_n hx hb dL_law_972 rfl (lv_at hl 4 rfl) ?_
    refine lv_iload hx hb dL_law_973 (lv_at hl 0 rfl) ?_
    refine lv_iconst (v := 2) hx hb dL_law_975 (by decide) ?_
    refine lv_iadd hx hb dL_law_976 ?_
    refine lv_topi (fun x_2100 ex_2100 => ?_)
    obtain rfl : x_2100 = 2 := ex_2100.trans (by decide)
    refine va_sld hx hb hX hbl hbA hw.2.2 (k_in0 (by decide)) dL_law_977 ?_
    refine lv_topi (fun x_2101 ex_2101 => ?_)
    obtain rfl : x_2101 = xs 2 := ex_2101
    refine lv_if_eq (tgt := 985) hx hb dL_law_978 (by decide) (fun _ => ?_) (fun h => absurd c_2097 h)
    refine lv_iconst (v := 0) hx hb dL_law_985 (by decide) ?_
    refine k_V (wr := []) 2 gw_1756 gw_1757 gw_1758 gw_15 gw_1759 hd_X12_guess hC hw (c_X12_guess γ l z z2 z10 z11 z12 z13 z14 z15 z16 z17 z18 z19 z22 z23 z24 z25 z26 z27 z28 z29 z30 z31 z32 z33 z36 z37 z38 z39 z40 z41 z42 z43 z44 z45 z46 z47 z48 z55 z56 z59 z60 z61 fa (xs 1) 0 ha0 ha1 ha2 ha3 ha4) ⟨by decide, by decide⟩ ⟨by decide, by decide⟩ hl.1 rfl 0 rfl rfl rfl (Nat.le_of_ble_eq_true rfl) [0, 1] [] rfl rfl rfl rfl (by decide) dL_law_986 (fun r w1 H locs hq hw => ?_)
    obtain ⟨rfl, rfl⟩ := hq
    have hw : kW γ A [] s H locs := hw
    refine W.eq (g2 := F0 m 989 ls [.int 0, .int 0]) rfl ?_
    refine lv_icmp_eq (tgt := 1370) hx hb dL_law_989 (by decide) (fun _ => ?_) (fun h => absurd (by decide) h)
    exact law_end hC hr hlocks hX hbl hbA hAs hl9 _ _ (kW.sub hw [] rfl rfl) (by decide) (by decide) _ (lv_sub hl [0, 4] rfl)
  · refine lv_iconst (v := 1) hx hb dL_law_957 (by decide) ?_
    refine lv_goto (tgt := 962) hx hb dL_law_958 (by decide) ?_
    refine k_V (wr := [(z, .inr (11, [.int 0, .int 0, .ref z2, .int 0, .int 0, .int 0, .int 0, .long 0, .int 0, .int 0, .ref z10, .ref z11, .ref z12, .ref z13, .ref z14, .ref z15, .ref z16, .ref z17, .ref z18, .ref z19, .int 0, .int 0, .ref z22, .ref z23, .ref z24, .ref z25, .ref z26, .ref z27, .ref z28, .ref z29, .ref z30, .ref z31, .ref z32, .ref z33, .int 0, .long 0, .ref z36, .ref z37, .ref z38, .ref z39, .ref z40, .ref z41, .ref z42, .ref z43, .ref z44, .ref z45, .ref z46, .ref z47, .ref z48, .int 0, .int 10, .int 0, .int 0, .int 0, .int 0, .ref z55, .ref z56, .int 0, .int 0, .ref z59, .ref z60, .ref z61, .int 0, .long 0])), (z10, .inl (γ.2.1 0, 10, .inl fa))]) 2 gw_998 gw_999 gw_1000 gw_1 gw_1001 hd_X11_guess hC hw (c_X11_guess γ l x x0 x1 x2 x3 x4 x5 x6 x7 x8 x9 x10 x90 x91 x92 x93 x94 x95 x96 x97 (xs 1) 1) ⟨by decide, by decide⟩ ⟨by decide, by decide⟩ hl.1 rfl 0 rfl rfl rfl (Nat.le_of_ble_eq_true rfl) [0, 2] [1, 3] rfl rfl rfl rfl (by decide) dL_law_962 (fun r w1 H locs hq hw => ?_)
    obtain ⟨rfl, rfl⟩ := hq
    have hw : kW γ A [(z, .inr (11, [.int 0, .int 0, .ref z2, .int 0, .int 0, .int 0, .int 0, .long 0, .int 0, .int 0, .ref z10, .ref z11, .ref z12, .ref z13, .ref z14, .ref z15, .ref z16, .ref z17, .ref z18, .ref z19, .int 0, .int 0, .ref z22, .ref z23, .ref z24, .ref z25, .ref z26, .ref z27, .ref z28, .ref z29, .ref z30, .ref z31, .ref z32, .ref z33, .int 0, .long 0, .ref z36, .ref z37, .ref z38, .ref z39, .ref z40, .ref z41, .ref z42, .ref z43, .ref z44, .ref z45, .ref z46, .ref z47, .ref z48, .int 0, .int 10, .int 0, .int 0, .int 0, .int 0, .ref z55, .ref z56, .int 0, .int 0, .ref z59, .ref z60, .ref z61, .int 0, .long 0])), (z10, .inl (γ.2.1 0, 10, .inl fa))] s H locs := hw
    refine W.eq (g2 := F0 m 965 ls [.int 0]) rfl ?_
    refine lv_aload_n hx hb dL_law_965 rfl (lv_at hl 2 rfl) ?_
    refine lv_aload_n hx hb dL_law_966 rfl (lv_at hl 4 rfl) ?_
    refine lv_iload hx hb dL_law_967 (lv_at hl 0 rfl) ?_
    refine lv_iconst (v := 1) hx hb dL_law_969 (by decide) ?_
    refine lv_iadd hx hb dL_law_970 ?_
    refine lv_topi (fun x_2102 ex_2102 => ?_)
    obtain rfl : x_2102 = 1 := ex_2102.trans (by decide)
    refine va_sld hx hb hX hbl hbA hw.2.2 (k_in0 (by decide)) dL_law_971 ?_
    refine lv_topi (fun x_2103 ex_2103 => ?_)
    obtain rfl : x_2103 = xs 1 := ex_2103
    refine lv_aload_n hx hb dL_law_972 rfl (lv_at hl 4 rfl) ?_
    refine lv_iload hx hb dL_law_973 (lv_at hl 0 rfl) ?_
    refine lv_iconst (v := 2) hx hb dL_law_975 (by decide) ?_
    refine lv_iadd hx hb dL_law_976 ?_
    refine lv_topi (fun x_2104 ex_2104 => ?_)
    obtain rfl : x_2104 = 2 := ex_2104.trans (by decide)
    refine va_sld hx hb hX hbl hbA hw.2.2 (k_in0 (by decide)) dL_law_977 ?_
    refine lv_topi (fun x_2105 ex_2105 => ?_)
    obtain rfl : x_2105 = xs 2 := ex_2105
    refine lv_if_eq (tgt := 985) hx hb dL_law_978 (by decide) (fun h => absurd h c_2097) (fun _ => ?_)
    refine lv_iconst (v := 1) hx hb dL_law_981 (by decide) ?_
    refine lv_goto (tgt := 986) hx hb dL_law_982 (by decide) ?_
    refine k_V (wr := []) 2 gw_1756 gw_1757 gw_1758 gw_15 gw_1759 hd_X12_guess hC hw (c_X12_guess γ l z z2 z10 z11 z12 z13 z14 z15 z16 z17 z18 z19 z22 z23 z24 z25 z26 z27 z28 z29 z30 z31 z32 z33 z36 z37 z38 z39 z40 z41 z42 z43 z44 z45 z46 z47 z48 z55 z56 z59 z60 z61 fa (xs 1) 1 ha0 ha1 ha2 ha3 ha4) ⟨by decide, by decide⟩ ⟨by decide, by decide⟩ hl.1 rfl 0 rfl rfl rfl (Nat.le_of_ble_eq_true rfl) [0, 1] [] rfl rfl rfl rfl (by decide) dL_law_986 (fun r w1 H locs hq hw => ?_)
    obtain ⟨rfl, rfl⟩ := hq
    have hw : kW γ A [] s H locs := hw
    refine W.eq (g2 := F0 m 989 ls [.int 0, .int 0]) rfl ?_
    refine lv_icmp_eq (tgt := 1370) hx hb dL_law_989 (by decide) (fun _ => ?_) (fun h => absurd (by decide) h)
    exact law_end hC hr hlocks hX hbl hbA hAs hl9 _ _ (kW.sub hw [] rfl rfl) (by decide) (by decide) _ (lv_sub hl [0, 4] rfl)

set_option maxHeartbeats 4000000 in
set_option maxRecDepth 100000 in
theorem lc_22 {γ : kΓ} {l : Launch} {p : Program} {e : Env} {s : State} {m : MethodId} {below : List Frame} {meth : Method} {c : Code} {A : Nat → Prop} {b : Nat} {xs : Nat → Int32} (hC : kC γ p s m [Value.ref b].toArray c code 7 RL A) (hr : meth.sig.returnType = ret) (hlocks : meth.locks = false) (hX : va_X b 7 xs s s.heap) (hbl : b < s.heap.size) (hbA : ¬ A b) (hAs : ∀ q, A q → s.heap.size ≤ q) (hl9 : l.stackTraces = false) (x : Nat) (x0 : Nat) (x1 : Nat) (x2 : Nat) (x3 : Nat) (x4 : Nat) (x5 : Nat) (x6 : Nat) (x7 : Nat) (x8 : Nat) (x9 : Nat) (x10 : Nat) (z : Nat) (z2 : Nat) (z10 : Nat) (z11 : Nat) (z12 : Nat) (z13 : Nat) (z14 : Nat) (z15 : Nat) (z16 : Nat) (z17 : Nat) (z18 : Nat) (z19 : Nat) (z22 : Nat) (z23 : Nat) (z24 : Nat) (z25 : Nat) (z26 : Nat) (z27 : Nat) (z28 : Nat) (z29 : Nat) (z30 : Nat) (z31 : Nat) (z32 : Nat) (z33 : Nat) (z36 : Nat) (z37 : Nat) (z38 : Nat) (z39 : Nat) (z40 : Nat) (z41 : Nat) (z42 : Nat) (z43 : Nat) (z44 : Nat) (z45 : Nat) (z46 : Nat) (z47 : Nat) (z48 : Nat) (z55 : Nat) (z56 : Nat) (z59 : Nat) (z60 : Nat) (z61 : Nat) (x90 : Nat) (x91 : Nat) (x92 : Nat) (x93 : Nat) (x94 : Nat) (x95 : Nat) (x96 : Nat) (x97 : Nat) (fa : Nat → Int32) (ou : Nat) (ha0 : fa 0 = 0) (ha1 : fa 1 = 0) (ha2 : fa 2 = 10) (ha3 : fa 3 = 10) (ha4 : fa 4 = 3) (H : Heap) (locs : List Loc) (hw : kW γ A [(x, .inr (10, [.ref x0, .ref x1, .ref x2, .ref x3, .ref x4, .ref x5, .ref x6, .ref x7, .ref x8, .ref x9, .ref x10])), (z, .inr (11, [.int 0, .int 0, .ref z2, .int 0, .int 0, .int 0, .int 0, .long 0, .int 0, .int 0, .ref z10, .ref z11, .ref z12, .ref z13, .ref z14, .ref z15, .ref z16, .ref z17, .ref z18, .ref z19, .int 0, .int 0, .ref z22, .ref z23, .ref z24, .ref z25, .ref z26, .ref z27, .ref z28, .ref z29, .ref z30, .ref z31, .ref z32, .ref z33, .int 0, .long 0, .ref z36, .ref z37, .ref z38, .ref z39, .ref z40, .ref z41, .ref z42, .ref z43, .ref z44, .ref z45, .ref z46, .ref z47, .ref z48, .int 0, .int 10, .int 0, .int 0, .int 0, .int 0, .ref z55, .ref z56, .int 0, .int 0, .ref z59, .ref z60, .ref z61, .int 0, .long 0])), (x9, .inr (0, [.ref x90, .ref x91, .ref x92, .ref x93, .ref x94, .ref x95, .ref x96, .ref x97, .int 0, .int 0, .int 10, .int 10, .int 3, .int 0, .int 0, .int 0, .int 0, .int 0, .int 0])), (z10, .inl (γ.2.1 0, 10, .inl fa))] s H locs) (ls : Array Slot) (hl : lv_has ls 7 [(4, .int 0), (3, .ref ou), (2, .ref z), (1, .ref x), (0, .ref b)]) : W p l e room_1 s m [Value.ref b].toArray below meth c H locs 251 13922 (lw_Z below #[Value.ref b] s) (F0 m 994 ls []) := by
  have hx := hC.1
  have hb := hC.2.1
  refine lv_aload_n hx hb dL_law_994 rfl (lv_at hl 3 rfl) ?_
  refine k_V (wr := [(z, .inr (11, [.int 0, .int 0, .ref z2, .int 0, .int 0, .int 0, .int 0, .long 0, .int 0, .int 0, .ref z10, .ref z11, .ref z12, .ref z13, .ref z14, .ref z15, .ref z16, .ref z17, .ref z18, .ref z19, .int 0, .int 0, .ref z22, .ref z23, .ref z24, .ref z25, .ref z26, .ref z27, .ref z28, .ref z29, .ref z30, .ref z31, .ref z32, .ref z33, .int 0, .long 0, .ref z36, .ref z37, .ref z38, .ref z39, .ref z40, .ref z41, .ref z42, .ref z43, .ref z44, .ref z45, .ref z46, .ref z47, .ref z48, .int 0, .int 10, .int 0, .int 0, .int 0, .int 0, .ref z55, .ref z56, .int 0, .int 0, .ref z59, .ref z60, .ref z61, .int 0, .long 0])), (z10, .inl (γ.2.1 0, 10, .inl fa))]) 0 gw_1002 gw_1003 gw_1004 gw_1 gw_1005 hd_X11_fits hC hw (c_X11_fits γ l x x0 x1 x2 x3 x4 x5 x6 x7 x8 x9 x10 x90 x91 x92 x93 x94 x95 x96 x97) ⟨by decide, by decide⟩ ⟨by decide, by decide⟩ hl.1 rfl 0 rfl rfl rfl (Nat.le_of_ble_eq_true rfl) [0, 2] [1, 3] rfl rfl rfl rfl (by decide) dL_law_995 (fun r w1 H locs hq hw => ?_)
  obtain ⟨rfl, rfl⟩ := hq
  have hw : kW γ A [(z, .inr (11, [.int 0, .int 0, .ref z2, .int 0, .int 0, .int 0, .int 0, .long 0, .int 0, .int 0, .ref z10, .ref z11, .ref z12, .ref z13, .ref z14, .ref z15, .ref z16, .ref z17, .ref z18, .ref z19, .int 0, .int 0, .ref z22, .ref z23, .ref z24, .ref z25, .ref z26, .ref z27, .ref z28, .ref z29, .ref z30, .ref z31, .ref z32, .ref z33, .int 0, .long 0, .ref z36, .ref z37, .ref z38, .ref z39, .ref z40, .ref z41, .ref z42, .ref z43, .ref z44, .ref z45, .ref z46, .ref z47, .ref z48, .int 0, .int 10, .int 0, .int 0, .int 0, .int 0, .ref z55, .ref z56, .int 0, .int 0, .ref z59, .ref z60, .ref z61, .int 0, .long 0])), (z10, .inl (γ.2.1 0, 10, .inl fa)), (x, .inr (10, [.ref x0, .ref x1, .ref x2, .ref x3, .ref x4, .ref x5, .ref x6, .ref x7, .ref x8, .ref x9, .ref x10])), (x9, .inr (0, [.ref x90, .ref x91, .ref x92, .ref x93, .ref x94, .ref x95, .ref x96, .ref x97, .int 0, .int 0, .int 10, .int 10, .int 3, .int 0, .int 0, .int 0, .int 0, .int 0, .int 0]))] s H locs := hw
  refine W.eq (g2 := F0 m 998 ls [.int 0]) rfl ?_
  refine lv_aload_n hx hb dL_law_998 rfl (lv_at hl 2 rfl) ?_
  refine k_V (wr := [(x, .inr (10, [.ref x0, .ref x1, .ref x2, .ref x3, .ref x4, .ref x5, .ref x6, .ref x7, .ref x8, .ref x9, .ref x10])), (x9, .inr (0, [.ref x90, .ref x91, .ref x92, .ref x93, .ref x94, .ref x95, .ref x96, .ref x97, .int 0, .int 0, .int 10, .int 10, .int 3, .int 0, .int 0, .int 0, .int 0, .int 0, .int 0]))]) 0 gw_1760 gw_1761 gw_1762 gw_15 gw_1763 hd_X12_fits hC hw (c_X12_fits γ l z z2 z10 z11 z12 z13 z14 z15 z16 z17 z18 z19 z22 z23 z24 z25 z26 z27 z28 z29 z30 z31 z32 z33 z36 z37 z38 z39 z40 z41 z42 z43 z44 z45 z46 z47 z48 z55 z56 z59 z60 z61 fa ha0 ha1 ha2 ha3 ha4) ⟨by decide, by decide⟩ ⟨by decide, by decide⟩ hl.1 rfl 0 rfl rfl rfl (Nat.le_of_ble_eq_true rfl) [0, 1] [2, 3] rfl rfl rfl rfl (by decide) dL_law_999 (fun r w1 H locs hq hw => ?_)
  obtain ⟨rfl, rfl⟩ := hq
  have hw : kW γ A [(x, .inr (10, [.ref x0, .ref x1, .ref x2, .ref x3, .ref x4, .ref x5, .ref x6, .ref x7, .ref x8, .ref x9, .ref x10])), (x9, .inr (0, [.ref x90, .ref x91, .ref x92, .ref x93, .ref x94, .ref x95, .ref x96, .ref x97, .int 0, .int 0, .int 10, .int 10, .int 3, .int 0, .int 0, .int 0, .int 0, .int 0, .int 0]))] s H locs := hw
  refine W.eq (g2 := F0 m 1002 ls [.int 0, .int 0]) rfl ?_
  refine lv_icmp_eq (tgt := 1370) hx hb dL_law_1002 (by decide) (fun _ => ?_) (fun h => absurd (by decide) h)
  exact law_end hC hr hlocks hX hbl hbA hAs hl9 _ _ (kW.sub hw [] rfl rfl) (by decide) (by decide) _ (lv_sub hl [0, 4] rfl)

set_option maxHeartbeats 4000000 in
set_option maxRecDepth 100000 in
theorem lc_23 {γ : kΓ} {l : Launch} {p : Program} {e : Env} {s : State} {m : MethodId} {below : List Frame} {meth : Method} {c : Code} {A : Nat → Prop} {b : Nat} {xs : Nat → Int32} (hC : kC γ p s m [Value.ref b].toArray c code 7 RL A) (hr : meth.sig.returnType = ret) (hlocks : meth.locks = false) (hX : va_X b 7 xs s s.heap) (hbl : b < s.heap.size) (hbA : ¬ A b) (hAs : ∀ q, A q → s.heap.size ≤ q) (hl9 : l.stackTraces = false) (x : Nat) (x0 : Nat) (x1 : Nat) (x2 : Nat) (x3 : Nat) (x4 : Nat) (x5 : Nat) (x6 : Nat) (x7 : Nat) (x8 : Nat) (x9 : Nat) (x10 : Nat) (z : Nat) (z2 : Nat) (z10 : Nat) (z11 : Nat) (z12 : Nat) (z13 : Nat) (z14 : Nat) (z15 : Nat) (z16 : Nat) (z17 : Nat) (z18 : Nat) (z19 : Nat) (z22 : Nat) (z23 : Nat) (z24 : Nat) (z25 : Nat) (z26 : Nat) (z27 : Nat) (z28 : Nat) (z29 : Nat) (z30 : Nat) (z31 : Nat) (z32 : Nat) (z33 : Nat) (z36 : Nat) (z37 : Nat) (z38 : Nat) (z39 : Nat) (z40 : Nat) (z41 : Nat) (z42 : Nat) (z43 : Nat) (z44 : Nat) (z45 : Nat) (z46 : Nat) (z47 : Nat) (z48 : Nat) (z55 : Nat) (z56 : Nat) (z59 : Nat) (z60 : Nat) (z61 : Nat) (x90 : Nat) (x91 : Nat) (x92 : Nat) (x93 : Nat) (x94 : Nat) (x95 : Nat) (x96 : Nat) (x97 : Nat) (fa : Nat → Int32) (ou : Nat) (ha0 : fa 0 = 0) (ha1 : fa 1 = 0) (ha2 : fa 2 = 10) (ha3 : fa 3 = 10) (ha4 : fa 4 = 3) (H : Heap) (locs : List Loc) (hw : kW γ A [(x, .inr (10, [.ref x0, .ref x1, .ref x2, .ref x3, .ref x4, .ref x5, .ref x6, .ref x7, .ref x8, .ref x9, .ref x10])), (z, .inr (11, [.int 0, .int 0, .ref z2, .int 0, .int 0, .int 0, .int 0, .long 0, .int 0, .int 0, .ref z10, .ref z11, .ref z12, .ref z13, .ref z14, .ref z15, .ref z16, .ref z17, .ref z18, .ref z19, .int 0, .int 0, .ref z22, .ref z23, .ref z24, .ref z25, .ref z26, .ref z27, .ref z28, .ref z29, .ref z30, .ref z31, .ref z32, .ref z33, .int 0, .long 0, .ref z36, .ref z37, .ref z38, .ref z39, .ref z40, .ref z41, .ref z42, .ref z43, .ref z44, .ref z45, .ref z46, .ref z47, .ref z48, .int 0, .int 10, .int 0, .int 0, .int 0, .int 0, .ref z55, .ref z56, .int 0, .int 0, .ref z59, .ref z60, .ref z61, .int 0, .long 0])), (x9, .inr (0, [.ref x90, .ref x91, .ref x92, .ref x93, .ref x94, .ref x95, .ref x96, .ref x97, .int 0, .int 0, .int 10, .int 10, .int 3, .int 0, .int 0, .int 0, .int 0, .int 0, .int 0])), (z10, .inl (γ.2.1 0, 10, .inl fa))] s H locs) (ls : Array Slot) (hl : lv_has ls 7 [(4, .int 0), (3, .ref ou), (2, .ref z), (1, .ref x), (0, .ref b)]) : W p l e room_1 s m [Value.ref b].toArray below meth c H locs 251 13922 (lw_Z below #[Value.ref b] s) (F0 m 1007 ls []) := by
  have hx := hC.1
  have hb := hC.2.1
  refine lv_aload_n hx hb dL_law_1007 rfl (lv_at hl 3 rfl) ?_
  refine k_V (wr := [(z, .inr (11, [.int 0, .int 0, .ref z2, .int 0, .int 0, .int 0, .int 0, .long 0, .int 0, .int 0, .ref z10, .ref z11, .ref z12, .ref z13, .ref z14, .ref z15, .ref z16, .ref z17, .ref z18, .ref z19, .int 0, .int 0, .ref z22, .ref z23, .ref z24, .ref z25, .ref z26, .ref z27, .ref z28, .ref z29, .ref z30, .ref z31, .ref z32, .ref z33, .int 0, .long 0, .ref z36, .ref z37, .ref z38, .ref z39, .ref z40, .ref z41, .ref z42, .ref z43, .ref z44, .ref z45, .ref z46, .ref z47, .ref z48, .int 0, .int 10, .int 0, .int 0, .int 0, .int 0, .ref z55, .ref z56, .int 0, .int 0, .ref z59, .ref z60, .ref z61, .int 0, .long 0])), (z10, .inl (γ.2.1 0, 10, .inl fa))]) 0 gw_1011 gw_1012 gw_1013 gw_1 gw_1014 hd_X11_ask hC hw (c_X11_ask γ l x x0 x1 x2 x3 x4 x5 x6 x7 x8 x9 x10 x90 x91 x92 x93 x94 x95 x96 x97) ⟨by decide, by decide⟩ ⟨by decide, by decide⟩ hl.1 rfl 0 rfl rfl rfl (Nat.le_of_ble_eq_true rfl) [0, 2] [1, 3] rfl rfl rfl rfl (by decide) dL_law_1008 (fun r w1 H locs hq hw => ?_)
  obtain ⟨rfl, rfl⟩ := hq
  have hw : kW γ A [(z, .inr (11, [.int 0, .int 0, .ref z2, .int 0, .int 0, .int 0, .int 0, .long 0, .int 0, .int 0, .ref z10, .ref z11, .ref z12, .ref z13, .ref z14, .ref z15, .ref z16, .ref z17, .ref z18, .ref z19, .int 0, .int 0, .ref z22, .ref z23, .ref z24, .ref z25, .ref z26, .ref z27, .ref z28, .ref z29, .ref z30, .ref z31, .ref z32, .ref z33, .int 0, .long 0, .ref z36, .ref z37, .ref z38, .ref z39, .ref z40, .ref z41, .ref z42, .ref z43, .ref z44, .ref z45, .ref z46, .ref z47, .ref z48, .int 0, .int 10, .int 0, .int 0, .int 0, .int 0, .ref z55, .ref z56, .int 0, .int 0, .ref z59, .ref z60, .ref z61, .int 0, .long 0])), (z10, .inl (γ.2.1 0, 10, .inl fa))] s H locs := hw
  refine W.eq (g2 := F0 m 1011 ls [.int (-1)]) rfl ?_
  refine lv_aload_n hx hb dL_law_1011 rfl (lv_at hl 2 rfl) ?_
  refine k_V (wr := []) 0 gw_1768 gw_1769 gw_1770 gw_15 gw_1771 hd_X12_ask hC hw (c_X12_ask γ l z z2 z10 z11 z12 z13 z14 z15 z16 z17 z18 z19 z22 z23 z24 z25 z26 z27 z28 z29 z30 z31 z32 z33 z36 z37 z38 z39 z40 z41 z42 z43 z44 z45 z46 z47 z48 z55 z56 z59 z60 z61 fa ha0 ha1 ha2 ha3 ha4) ⟨by decide, by decide⟩ ⟨by decide, by decide⟩ hl.1 rfl 0 rfl rfl rfl (Nat.le_of_ble_eq_true rfl) [0, 1] [] rfl rfl rfl rfl (by decide) dL_law_1012 (fun r w1 H locs hq hw => ?_)
  obtain ⟨rfl, rfl⟩ := hq
  have hw : kW γ A [] s H locs := hw
  refine W.eq (g2 := F0 m 1015 ls [.int (-1), .int (-1)]) rfl ?_
  refine lv_icmp_eq (tgt := 1370) hx hb dL_law_1015 (by decide) (fun _ => ?_) (fun h => absurd (by decide) h)
  exact law_end hC hr hlocks hX hbl hbA hAs hl9 _ _ (kW.sub hw [] rfl rfl) (by decide) (by decide) _ (lv_sub hl [0, 4] rfl)

set_option maxHeartbeats 4000000 in
set_option maxRecDepth 100000 in
theorem lc_24 {γ : kΓ} {l : Launch} {p : Program} {e : Env} {s : State} {m : MethodId} {below : List Frame} {meth : Method} {c : Code} {A : Nat → Prop} {b : Nat} {xs : Nat → Int32} (hC : kC γ p s m [Value.ref b].toArray c code 7 RL A) (hr : meth.sig.returnType = ret) (hlocks : meth.locks = false) (hX : va_X b 7 xs s s.heap) (hbl : b < s.heap.size) (hbA : ¬ A b) (hAs : ∀ q, A q → s.heap.size ≤ q) (hl9 : l.stackTraces = false) (x : Nat) (x0 : Nat) (x1 : Nat) (x2 : Nat) (x3 : Nat) (x4 : Nat) (x5 : Nat) (x6 : Nat) (x7 : Nat) (x8 : Nat) (x9 : Nat) (x10 : Nat) (z : Nat) (z2 : Nat) (z10 : Nat) (z11 : Nat) (z12 : Nat) (z13 : Nat) (z14 : Nat) (z15 : Nat) (z16 : Nat) (z17 : Nat) (z18 : Nat) (z19 : Nat) (z22 : Nat) (z23 : Nat) (z24 : Nat) (z25 : Nat) (z26 : Nat) (z27 : Nat) (z28 : Nat) (z29 : Nat) (z30 : Nat) (z31 : Nat) (z32 : Nat) (z33 : Nat) (z36 : Nat) (z37 : Nat) (z38 : Nat) (z39 : Nat) (z40 : Nat) (z41 : Nat) (z42 : Nat) (z43 : Nat) (z44 : Nat) (z45 : Nat) (z46 : Nat) (z47 : Nat) (z48 : Nat) (z55 : Nat) (z56 : Nat) (z59 : Nat) (z60 : Nat) (z61 : Nat) (x90 : Nat) (x91 : Nat) (x92 : Nat) (x93 : Nat) (x94 : Nat) (x95 : Nat) (x96 : Nat) (x97 : Nat) (fa : Nat → Int32) (ou : Nat) (ha0 : fa 0 = 0) (ha1 : fa 1 = 0) (ha2 : fa 2 = 10) (ha3 : fa 3 = 10) (ha4 : fa 4 = 3) (H : Heap) (locs : List Loc) (hw : kW γ A [(x, .inr (10, [.ref x0, .ref x1, .ref x2, .ref x3, .ref x4, .ref x5, .ref x6, .ref x7, .ref x8, .ref x9, .ref x10])), (z, .inr (11, [.int 0, .int 0, .ref z2, .int 0, .int 0, .int 0, .int 0, .long 0, .int 0, .int 0, .ref z10, .ref z11, .ref z12, .ref z13, .ref z14, .ref z15, .ref z16, .ref z17, .ref z18, .ref z19, .int 0, .int 0, .ref z22, .ref z23, .ref z24, .ref z25, .ref z26, .ref z27, .ref z28, .ref z29, .ref z30, .ref z31, .ref z32, .ref z33, .int 0, .long 0, .ref z36, .ref z37, .ref z38, .ref z39, .ref z40, .ref z41, .ref z42, .ref z43, .ref z44, .ref z45, .ref z46, .ref z47, .ref z48, .int 0, .int 10, .int 0, .int 0, .int 0, .int 0, .ref z55, .ref z56, .int 0, .int 0, .ref z59, .ref z60, .ref z61, .int 0, .long 0])), (x9, .inr (0, [.ref x90, .ref x91, .ref x92, .ref x93, .ref x94, .ref x95, .ref x96, .ref x97, .int 0, .int 0, .int 10, .int 10, .int 3, .int 0, .int 0, .int 0, .int 0, .int 0, .int 0])), (z10, .inl (γ.2.1 0, 10, .inl fa))] s H locs) (ls : Array Slot) (hl : lv_has ls 7 [(4, .int 0), (3, .ref ou), (2, .ref z), (1, .ref x), (0, .ref b)]) : W p l e room_1 s m [Value.ref b].toArray below meth c H locs 251 13922 (lw_Z below #[Value.ref b] s) (F0 m 1020 ls []) := by
  have hx := hC.1
  have hb := hC.2.1
  refine lv_aload_n hx hb dL_law_1020 rfl (lv_at hl 3 rfl) ?_
  refine lv_aload_n hx hb dL_law_1021 rfl (lv_at hl 4 rfl) ?_
  refine lv_iload hx hb dL_law_1022 (lv_at hl 0 rfl) ?_
  refine lv_iconst (v := 1) hx hb dL_law_1024 (by decide) ?_
  refine lv_iadd hx hb dL_law_1025 ?_
  refine lv_topi (fun x_2106 ex_2106 => ?_)
  obtain rfl : x_2106 = 1 := ex_2106.trans (by decide)
  refine va_sld hx hb hX hbl hbA hw.2.2 (k_in0 (by decide)) dL_law_1026 ?_
  refine lv_topi (fun x_2107 ex_2107 => ?_)
  obtain rfl : x_2107 = xs 1 := ex_2107
  refine lv_aload_n hx hb dL_law_1027 rfl (lv_at hl 4 rfl) ?_
  refine lv_iload hx hb dL_law_1028 (lv_at hl 0 rfl) ?_
  refine lv_iconst (v := 2) hx hb dL_law_1030 (by decide) ?_
  refine lv_iadd hx hb dL_law_1031 ?_
  refine lv_topi (fun x_2108 ex_2108 => ?_)
  obtain rfl : x_2108 = 2 := ex_2108.trans (by decide)
  refine va_sld hx hb hX hbl hbA hw.2.2 (k_in0 (by decide)) dL_law_1032 ?_
  refine lv_topi (fun x_2109 ex_2109 => ?_)
  obtain rfl : x_2109 = xs 2 := ex_2109
  refine k_V (wr := [(z, .inr (11, [.int 0, .int 0, .ref z2, .int 0, .int 0, .int 0, .int 0, .long 0, .int 0, .int 0, .ref z10, .ref z11, .ref z12, .ref z13, .ref z14, .ref z15, .ref z16, .ref z17, .ref z18, .ref z19, .int 0, .int 0, .ref z22, .ref z23, .ref z24, .ref z25, .ref z26, .ref z27, .ref z28, .ref z29, .ref z30, .ref z31, .ref z32, .ref z33, .int 0, .long 0, .ref z36, .ref z37, .ref z38, .ref z39, .ref z40, .ref z41, .ref z42, .ref z43, .ref z44, .ref z45, .ref z46, .ref z47, .ref z48, .int 0, .int 10, .int 0, .int 0, .int 0, .int 0, .ref z55, .ref z56, .int 0, .int 0, .ref z59, .ref z60, .ref z61, .int 0, .long 0])), (z10, .inl (γ.2.1 0, 10, .inl fa))]) 2 gw_923 gw_924 gw_925 gw_1 gw_926 hd_X11_chance hC hw (c_X11_chance γ l x x0 x1 x2 x3 x4 x5 x6 x7 x8 x9 x10 x90 x91 x92 x93 x94 x95 x96 x97 (xs 1) (xs 2)) ⟨by decide, by decide⟩ ⟨by decide, by decide⟩ hl.1 rfl 0 rfl rfl rfl (Nat.le_of_ble_eq_true rfl) [0, 2] [1, 3] rfl rfl rfl rfl (by decide) dL_law_1033 (fun r w1 H locs hq hw => ?_)
  obtain ⟨rfl, rfl⟩ := hq
  have hw : kW γ A [(z, .inr (11, [.int 0, .int 0, .ref z2, .int 0, .int 0, .int 0, .int 0, .long 0, .int 0, .int 0, .ref z10, .ref z11, .ref z12, .ref z13, .ref z14, .ref z15, .ref z16, .ref z17, .ref z18, .ref z19, .int 0, .int 0, .ref z22, .ref z23, .ref z24, .ref z25, .ref z26, .ref z27, .ref z28, .ref z29, .ref z30, .ref z31, .ref z32, .ref z33, .int 0, .long 0, .ref z36, .ref z37, .ref z38, .ref z39, .ref z40, .ref z41, .ref z42, .ref z43, .ref z44, .ref z45, .ref z46, .ref z47, .ref z48, .int 0, .int 10, .int 0, .int 0, .int 0, .int 0, .ref z55, .ref z56, .int 0, .int 0, .ref z59, .ref z60, .ref z61, .int 0, .long 0])), (z10, .inl (γ.2.1 0, 10, .inl fa))] s H locs := hw
  refine W.eq (g2 := F0 m 1036 ls [.int (-1)]) rfl ?_
  refine lv_aload_n hx hb dL_law_1036 rfl (lv_at hl 2 rfl) ?_
  refine lv_aload_n hx hb dL_law_1037 rfl (lv_at hl 4 rfl) ?_
  refine lv_iload hx hb dL_law_1038 (lv_at hl 0 rfl) ?_
  refine lv_iconst (v := 1) hx hb dL_law_1040 (by decide) ?_
  refine lv_iadd hx hb dL_law_1041 ?_
  refine lv_topi (fun x_2110 ex_2110 => ?_)
  obtain rfl : x_2110 = 1 := ex_2110.trans (by decide)
  refine va_sld hx hb hX hbl hbA hw.2.2 (k_in0 (by decide)) dL_law_1042 ?_
  refine lv_topi (fun x_2111 ex_2111 => ?_)
  obtain rfl : x_2111 = xs 1 := ex_2111
  refine lv_aload_n hx hb dL_law_1043 rfl (lv_at hl 4 rfl) ?_
  refine lv_iload hx hb dL_law_1044 (lv_at hl 0 rfl) ?_
  refine lv_iconst (v := 2) hx hb dL_law_1046 (by decide) ?_
  refine lv_iadd hx hb dL_law_1047 ?_
  refine lv_topi (fun x_2112 ex_2112 => ?_)
  obtain rfl : x_2112 = 2 := ex_2112.trans (by decide)
  refine va_sld hx hb hX hbl hbA hw.2.2 (k_in0 (by decide)) dL_law_1048 ?_
  refine lv_topi (fun x_2113 ex_2113 => ?_)
  obtain rfl : x_2113 = xs 2 := ex_2113
  refine k_V (wr := []) 2 gw_1696 gw_1697 gw_1698 gw_15 gw_1699 hd_X12_chance hC hw (c_X12_chance γ l z z2 z10 z11 z12 z13 z14 z15 z16 z17 z18 z19 z22 z23 z24 z25 z26 z27 z28 z29 z30 z31 z32 z33 z36 z37 z38 z39 z40 z41 z42 z43 z44 z45 z46 z47 z48 z55 z56 z59 z60 z61 fa (xs 1) (xs 2) ha0 ha1 ha2 ha3 ha4) ⟨by decide, by decide⟩ ⟨by decide, by decide⟩ hl.1 rfl 0 rfl rfl rfl (Nat.le_of_ble_eq_true rfl) [0, 1] [] rfl rfl rfl rfl (by decide) dL_law_1049 (fun r w1 H locs hq hw => ?_)
  obtain ⟨rfl, rfl⟩ := hq
  have hw : kW γ A [] s H locs := hw
  refine W.eq (g2 := F0 m 1052 ls [.int (-1), .int (-1)]) rfl ?_
  refine lv_icmp_eq (tgt := 1370) hx hb dL_law_1052 (by decide) (fun _ => ?_) (fun h => absurd (by decide) h)
  exact law_end hC hr hlocks hX hbl hbA hAs hl9 _ _ (kW.sub hw [] rfl rfl) (by decide) (by decide) _ (lv_sub hl [0, 4] rfl)

set_option maxHeartbeats 4000000 in
set_option maxRecDepth 100000 in
theorem lc_25 {γ : kΓ} {l : Launch} {p : Program} {e : Env} {s : State} {m : MethodId} {below : List Frame} {meth : Method} {c : Code} {A : Nat → Prop} {b : Nat} {xs : Nat → Int32} (hC : kC γ p s m [Value.ref b].toArray c code 7 RL A) (hr : meth.sig.returnType = ret) (hlocks : meth.locks = false) (hX : va_X b 7 xs s s.heap) (hbl : b < s.heap.size) (hbA : ¬ A b) (hAs : ∀ q, A q → s.heap.size ≤ q) (hl9 : l.stackTraces = false) (x : Nat) (x0 : Nat) (x1 : Nat) (x2 : Nat) (x3 : Nat) (x4 : Nat) (x5 : Nat) (x6 : Nat) (x7 : Nat) (x8 : Nat) (x9 : Nat) (x10 : Nat) (z : Nat) (z2 : Nat) (z10 : Nat) (z11 : Nat) (z12 : Nat) (z13 : Nat) (z14 : Nat) (z15 : Nat) (z16 : Nat) (z17 : Nat) (z18 : Nat) (z19 : Nat) (z22 : Nat) (z23 : Nat) (z24 : Nat) (z25 : Nat) (z26 : Nat) (z27 : Nat) (z28 : Nat) (z29 : Nat) (z30 : Nat) (z31 : Nat) (z32 : Nat) (z33 : Nat) (z36 : Nat) (z37 : Nat) (z38 : Nat) (z39 : Nat) (z40 : Nat) (z41 : Nat) (z42 : Nat) (z43 : Nat) (z44 : Nat) (z45 : Nat) (z46 : Nat) (z47 : Nat) (z48 : Nat) (z55 : Nat) (z56 : Nat) (z59 : Nat) (z60 : Nat) (z61 : Nat) (x90 : Nat) (x91 : Nat) (x92 : Nat) (x93 : Nat) (x94 : Nat) (x95 : Nat) (x96 : Nat) (x97 : Nat) (fa : Nat → Int32) (ou : Nat) (ha0 : fa 0 = 0) (ha1 : fa 1 = 0) (ha2 : fa 2 = 10) (ha3 : fa 3 = 10) (ha4 : fa 4 = 3) (H : Heap) (locs : List Loc) (hw : kW γ A [(x, .inr (10, [.ref x0, .ref x1, .ref x2, .ref x3, .ref x4, .ref x5, .ref x6, .ref x7, .ref x8, .ref x9, .ref x10])), (z, .inr (11, [.int 0, .int 0, .ref z2, .int 0, .int 0, .int 0, .int 0, .long 0, .int 0, .int 0, .ref z10, .ref z11, .ref z12, .ref z13, .ref z14, .ref z15, .ref z16, .ref z17, .ref z18, .ref z19, .int 0, .int 0, .ref z22, .ref z23, .ref z24, .ref z25, .ref z26, .ref z27, .ref z28, .ref z29, .ref z30, .ref z31, .ref z32, .ref z33, .int 0, .long 0, .ref z36, .ref z37, .ref z38, .ref z39, .ref z40, .ref z41, .ref z42, .ref z43, .ref z44, .ref z45, .ref z46, .ref z47, .ref z48, .int 0, .int 10, .int 0, .int 0, .int 0, .int 0, .ref z55, .ref z56, .int 0, .int 0, .ref z59, .ref z60, .ref z61, .int 0, .long 0])), (x9, .inr (0, [.ref x90, .ref x91, .ref x92, .ref x93, .ref x94, .ref x95, .ref x96, .ref x97, .int 0, .int 0, .int 10, .int 10, .int 3, .int 0, .int 0, .int 0, .int 0, .int 0, .int 0])), (z10, .inl (γ.2.1 0, 10, .inl fa))] s H locs) (ls : Array Slot) (hl : lv_has ls 7 [(4, .int 0), (3, .ref ou), (2, .ref z), (1, .ref x), (0, .ref b)]) : W p l e room_1 s m [Value.ref b].toArray below meth c H locs 251 13922 (lw_Z below #[Value.ref b] s) (F0 m 1057 ls []) := by
  have hx := hC.1
  have hb := hC.2.1
  refine lv_aload_n hx hb dL_law_1057 rfl (lv_at hl 3 rfl) ?_
  refine k_V (wr := [(z, .inr (11, [.int 0, .int 0, .ref z2, .int 0, .int 0, .int 0, .int 0, .long 0, .int 0, .int 0, .ref z10, .ref z11, .ref z12, .ref z13, .ref z14, .ref z15, .ref z16, .ref z17, .ref z18, .ref z19, .int 0, .int 0, .ref z22, .ref z23, .ref z24, .ref z25, .ref z26, .ref z27, .ref z28, .ref z29, .ref z30, .ref z31, .ref z32, .ref z33, .int 0, .long 0, .ref z36, .ref z37, .ref z38, .ref z39, .ref z40, .ref z41, .ref z42, .ref z43, .ref z44, .ref z45, .ref z46, .ref z47, .ref z48, .int 0, .int 10, .int 0, .int 0, .int 0, .int 0, .ref z55, .ref z56, .int 0, .int 0, .ref z59, .ref z60, .ref z61, .int 0, .long 0])), (z10, .inl (γ.2.1 0, 10, .inl fa))]) 0 gw_934 gw_935 gw_936 gw_1 gw_937 hd_X11_dead hC hw (c_X11_dead γ l x x0 x1 x2 x3 x4 x5 x6 x7 x8 x9 x10 x90 x91 x92 x93 x94 x95 x96 x97) ⟨by decide, by decide⟩ ⟨by decide, by decide⟩ hl.1 rfl 0 rfl rfl rfl (Nat.le_of_ble_eq_true rfl) [0, 2] [1, 3] rfl rfl rfl rfl (by decide) dL_law_1058 (fun r w1 H locs hq hw => ?_)
  obtain ⟨rfl, rfl⟩ := hq
  have hw : kW γ A [(z, .inr (11, [.int 0, .int 0, .ref z2, .int 0, .int 0, .int 0, .int 0, .long 0, .int 0, .int 0, .ref z10, .ref z11, .ref z12, .ref z13, .ref z14, .ref z15, .ref z16, .ref z17, .ref z18, .ref z19, .int 0, .int 0, .ref z22, .ref z23, .ref z24, .ref z25, .ref z26, .ref z27, .ref z28, .ref z29, .ref z30, .ref z31, .ref z32, .ref z33, .int 0, .long 0, .ref z36, .ref z37, .ref z38, .ref z39, .ref z40, .ref z41, .ref z42, .ref z43, .ref z44, .ref z45, .ref z46, .ref z47, .ref z48, .int 0, .int 10, .int 0, .int 0, .int 0, .int 0, .ref z55, .ref z56, .int 0, .int 0, .ref z59, .ref z60, .ref z61, .int 0, .long 0])), (z10, .inl (γ.2.1 0, 10, .inl fa))] s H locs := hw
  refine W.eq (g2 := F0 m 1061 ls [.int 0]) rfl ?_
  refine lv_aload_n hx hb dL_law_1061 rfl (lv_at hl 2 rfl) ?_
  refine k_V (wr := []) 0 gw_1772 gw_1773 gw_1774 gw_15 gw_1775 hd_X12_dead hC hw (c_X12_dead γ l z z2 z10 z11 z12 z13 z14 z15 z16 z17 z18 z19 z22 z23 z24 z25 z26 z27 z28 z29 z30 z31 z32 z33 z36 z37 z38 z39 z40 z41 z42 z43 z44 z45 z46 z47 z48 z55 z56 z59 z60 z61 fa ha0 ha1 ha2 ha3 ha4) ⟨by decide, by decide⟩ ⟨by decide, by decide⟩ hl.1 rfl 0 rfl rfl rfl (Nat.le_of_ble_eq_true rfl) [0, 1] [] rfl rfl rfl rfl (by decide) dL_law_1062 (fun r w1 H locs hq hw => ?_)
  obtain ⟨rfl, rfl⟩ := hq
  have hw : kW γ A [] s H locs := hw
  refine W.eq (g2 := F0 m 1065 ls [.int 0, .int 0]) rfl ?_
  refine lv_icmp_eq (tgt := 1370) hx hb dL_law_1065 (by decide) (fun _ => ?_) (fun h => absurd (by decide) h)
  exact law_end hC hr hlocks hX hbl hbA hAs hl9 _ _ (kW.sub hw [] rfl rfl) (by decide) (by decide) _ (lv_sub hl [0, 4] rfl)

set_option maxHeartbeats 4000000 in
set_option maxRecDepth 100000 in
theorem lc_26 {γ : kΓ} {l : Launch} {p : Program} {e : Env} {s : State} {m : MethodId} {below : List Frame} {meth : Method} {c : Code} {A : Nat → Prop} {b : Nat} {xs : Nat → Int32} (hC : kC γ p s m [Value.ref b].toArray c code 7 RL A) (hr : meth.sig.returnType = ret) (hlocks : meth.locks = false) (hX : va_X b 7 xs s s.heap) (hbl : b < s.heap.size) (hbA : ¬ A b) (hAs : ∀ q, A q → s.heap.size ≤ q) (hl9 : l.stackTraces = false) (x : Nat) (x0 : Nat) (x1 : Nat) (x2 : Nat) (x3 : Nat) (x4 : Nat) (x5 : Nat) (x6 : Nat) (x7 : Nat) (x8 : Nat) (x9 : Nat) (x10 : Nat) (z : Nat) (z2 : Nat) (z10 : Nat) (z11 : Nat) (z12 : Nat) (z13 : Nat) (z14 : Nat) (z15 : Nat) (z16 : Nat) (z17 : Nat) (z18 : Nat) (z19 : Nat) (z22 : Nat) (z23 : Nat) (z24 : Nat) (z25 : Nat) (z26 : Nat) (z27 : Nat) (z28 : Nat) (z29 : Nat) (z30 : Nat) (z31 : Nat) (z32 : Nat) (z33 : Nat) (z36 : Nat) (z37 : Nat) (z38 : Nat) (z39 : Nat) (z40 : Nat) (z41 : Nat) (z42 : Nat) (z43 : Nat) (z44 : Nat) (z45 : Nat) (z46 : Nat) (z47 : Nat) (z48 : Nat) (z55 : Nat) (z56 : Nat) (z59 : Nat) (z60 : Nat) (z61 : Nat) (x90 : Nat) (x91 : Nat) (x92 : Nat) (x93 : Nat) (x94 : Nat) (x95 : Nat) (x96 : Nat) (x97 : Nat) (fa : Nat → Int32) (ou : Nat) (ha0 : fa 0 = 0) (ha1 : fa 1 = 0) (ha2 : fa 2 = 10) (ha3 : fa 3 = 10) (ha4 : fa 4 = 3) (H : Heap) (locs : List Loc) (hw : kW γ A [(x, .inr (10, [.ref x0, .ref x1, .ref x2, .ref x3, .ref x4, .ref x5, .ref x6, .ref x7, .ref x8, .ref x9, .ref x10])), (z, .inr (11, [.int 0, .int 0, .ref z2, .int 0, .int 0, .int 0, .int 0, .long 0, .int 0, .int 0, .ref z10, .ref z11, .ref z12, .ref z13, .ref z14, .ref z15, .ref z16, .ref z17, .ref z18, .ref z19, .int 0, .int 0, .ref z22, .ref z23, .ref z24, .ref z25, .ref z26, .ref z27, .ref z28, .ref z29, .ref z30, .ref z31, .ref z32, .ref z33, .int 0, .long 0, .ref z36, .ref z37, .ref z38, .ref z39, .ref z40, .ref z41, .ref z42, .ref z43, .ref z44, .ref z45, .ref z46, .ref z47, .ref z48, .int 0, .int 10, .int 0, .int 0, .int 0, .int 0, .ref z55, .ref z56, .int 0, .int 0, .ref z59, .ref z60, .ref z61, .int 0, .long 0])), (x9, .inr (0, [.ref x90, .ref x91, .ref x92, .ref x93, .ref x94, .ref x95, .ref x96, .ref x97, .int 0, .int 0, .int 10, .int 10, .int 3, .int 0, .int 0, .int 0, .int 0, .int 0, .int 0])), (z10, .inl (γ.2.1 0, 10, .inl fa))] s H locs) (ls : Array Slot) (hl : lv_has ls 7 [(4, .int 0), (3, .ref ou), (2, .ref z), (1, .ref x), (0, .ref b)]) : W p l e room_1 s m [Value.ref b].toArray below meth c H locs 251 13922 (lw_Z below #[Value.ref b] s) (F0 m 1070 ls []) := by
  have hx := hC.1
  have hb := hC.2.1
  refine lv_aload_n hx hb dL_law_1070 rfl (lv_at hl 3 rfl) ?_
  refine lv_aload_n hx hb dL_law_1071 rfl (lv_at hl 4 rfl) ?_
  refine lv_iload hx hb dL_law_1072 (lv_at hl 0 rfl) ?_
  refine lv_iconst (v := 1) hx hb dL_law_1074 (by decide) ?_
  refine lv_iadd hx hb dL_law_1075 ?_
  refine lv_topi (fun x_2114 ex_2114 => ?_)
  obtain rfl : x_2114 = 1 := ex_2114.trans (by decide)
  refine va_sld hx hb hX hbl hbA hw.2.2 (k_in0 (by decide)) dL_law_1076 ?_
  refine lv_topi (fun x_2115 ex_2115 => ?_)
  obtain rfl : x_2115 = xs 1 := ex_2115
  refine k_V (wr := [(z, .inr (11, [.int 0, .int 0, .ref z2, .int 0, .int 0, .int 0, .int 0, .long 0, .int 0, .int 0, .ref z10, .ref z11, .ref z12, .ref z13, .ref z14, .ref z15, .ref z16, .ref z17, .ref z18, .ref z19, .int 0, .int 0, .ref z22, .ref z23, .ref z24, .ref z25, .ref z26, .ref z27, .ref z28, .ref z29, .ref z30, .ref z31, .ref z32, .ref z33, .int 0, .long 0, .ref z36, .ref z37, .ref z38, .ref z39, .ref z40, .ref z41, .ref z42, .ref z43, .ref z44, .ref z45, .ref z46, .ref z47, .ref z48, .int 0, .int 10, .int 0, .int 0, .int 0, .int 0, .ref z55, .ref z56, .int 0, .int 0, .ref z59, .ref z60, .ref z61, .int 0, .long 0])), (z10, .inl (γ.2.1 0, 10, .inl fa))]) 1 gw_938 gw_939 gw_940 gw_1 gw_941 hd_X11_ring hC hw (c_X11_ring γ l x x0 x1 x2 x3 x4 x5 x6 x7 x8 x9 x10 x90 x91 x92 x93 x94 x95 x96 x97 (xs 1)) ⟨by decide, by decide⟩ ⟨by decide, by decide⟩ hl.1 rfl 0 rfl rfl rfl (Nat.le_of_ble_eq_true rfl) [0, 2] [1, 3] rfl rfl rfl rfl (by decide) dL_law_1077 (fun r w1 H locs hq hw => ?_)
  obtain ⟨rfl, rfl⟩ := hq
  have hw : kW γ A [(z, .inr (11, [.int 0, .int 0, .ref z2, .int 0, .int 0, .int 0, .int 0, .long 0, .int 0, .int 0, .ref z10, .ref z11, .ref z12, .ref z13, .ref z14, .ref z15, .ref z16, .ref z17, .ref z18, .ref z19, .int 0, .int 0, .ref z22, .ref z23, .ref z24, .ref z25, .ref z26, .ref z27, .ref z28, .ref z29, .ref z30, .ref z31, .ref z32, .ref z33, .int 0, .long 0, .ref z36, .ref z37, .ref z38, .ref z39, .ref z40, .ref z41, .ref z42, .ref z43, .ref z44, .ref z45, .ref z46, .ref z47, .ref z48, .int 0, .int 10, .int 0, .int 0, .int 0, .int 0, .ref z55, .ref z56, .int 0, .int 0, .ref z59, .ref z60, .ref z61, .int 0, .long 0])), (z10, .inl (γ.2.1 0, 10, .inl fa))] s H locs := hw
  refine W.eq (g2 := F0 m 1080 ls [.int (-1)]) rfl ?_
  refine lv_aload_n hx hb dL_law_1080 rfl (lv_at hl 2 rfl) ?_
  refine lv_aload_n hx hb dL_law_1081 rfl (lv_at hl 4 rfl) ?_
  refine lv_iload hx hb dL_law_1082 (lv_at hl 0 rfl) ?_
  refine lv_iconst (v := 1) hx hb dL_law_1084 (by decide) ?_
  refine lv_iadd hx hb dL_law_1085 ?_
  refine lv_topi (fun x_2116 ex_2116 => ?_)
  obtain rfl : x_2116 = 1 := ex_2116.trans (by decide)
  refine va_sld hx hb hX hbl hbA hw.2.2 (k_in0 (by decide)) dL_law_1086 ?_
  refine lv_topi (fun x_2117 ex_2117 => ?_)
  obtain rfl : x_2117 = xs 1 := ex_2117
  refine k_V (wr := []) 1 gw_1776 gw_1777 gw_1778 gw_15 gw_1779 hd_X12_ring hC hw (c_X12_ring γ l z z2 z10 z11 z12 z13 z14 z15 z16 z17 z18 z19 z22 z23 z24 z25 z26 z27 z28 z29 z30 z31 z32 z33 z36 z37 z38 z39 z40 z41 z42 z43 z44 z45 z46 z47 z48 z55 z56 z59 z60 z61 fa (xs 1) ha0 ha1 ha2 ha3 ha4) ⟨by decide, by decide⟩ ⟨by decide, by decide⟩ hl.1 rfl 0 rfl rfl rfl (Nat.le_of_ble_eq_true rfl) [0, 1] [] rfl rfl rfl rfl (by decide) dL_law_1087 (fun r w1 H locs hq hw => ?_)
  obtain ⟨rfl, rfl⟩ := hq
  have hw : kW γ A [] s H locs := hw
  refine W.eq (g2 := F0 m 1090 ls [.int (-1), .int (-1)]) rfl ?_
  refine lv_icmp_eq (tgt := 1370) hx hb dL_law_1090 (by decide) (fun _ => ?_) (fun h => absurd (by decide) h)
  exact law_end hC hr hlocks hX hbl hbA hAs hl9 _ _ (kW.sub hw [] rfl rfl) (by decide) (by decide) _ (lv_sub hl [0, 4] rfl)

set_option maxHeartbeats 4000000 in
set_option maxRecDepth 100000 in
theorem lc_0 {γ : kΓ} {l : Launch} {p : Program} {e : Env} {s : State} {m : MethodId} {below : List Frame} {meth : Method} {c : Code} {A : Nat → Prop} {b : Nat} {xs : Nat → Int32} (hC : kC γ p s m [Value.ref b].toArray c code 7 RL A) (hr : meth.sig.returnType = ret) (hlocks : meth.locks = false) (hX : va_X b 7 xs s s.heap) (hbl : b < s.heap.size) (hbA : ¬ A b) (hAs : ∀ q, A q → s.heap.size ≤ q) (hl9 : l.stackTraces = false) (x : Nat) (x0 : Nat) (x1 : Nat) (x2 : Nat) (x3 : Nat) (x4 : Nat) (x5 : Nat) (x6 : Nat) (x7 : Nat) (x8 : Nat) (x9 : Nat) (x10 : Nat) (z : Nat) (z2 : Nat) (z10 : Nat) (z11 : Nat) (z12 : Nat) (z13 : Nat) (z14 : Nat) (z15 : Nat) (z16 : Nat) (z17 : Nat) (z18 : Nat) (z19 : Nat) (z22 : Nat) (z23 : Nat) (z24 : Nat) (z25 : Nat) (z26 : Nat) (z27 : Nat) (z28 : Nat) (z29 : Nat) (z30 : Nat) (z31 : Nat) (z32 : Nat) (z33 : Nat) (z36 : Nat) (z37 : Nat) (z38 : Nat) (z39 : Nat) (z40 : Nat) (z41 : Nat) (z42 : Nat) (z43 : Nat) (z44 : Nat) (z45 : Nat) (z46 : Nat) (z47 : Nat) (z48 : Nat) (z55 : Nat) (z56 : Nat) (z59 : Nat) (z60 : Nat) (z61 : Nat) (x0g : Nat) (fx0g : Nat → Int32) (ou : Nat) (H : Heap) (locs : List Loc) (hw : kW γ A [(x, .inr (10, [.ref x0, .ref x1, .ref x2, .ref x3, .ref x4, .ref x5, .ref x6, .ref x7, .ref x8, .ref x9, .ref x10])), (z, .inr (11, [.int 0, .int 0, .ref z2, .int 0, .int 0, .int 0, .int 0, .long 0, .int 0, .int 0, .ref z10, .ref z11, .ref z12, .ref z13, .ref z14, .ref z15, .ref z16, .ref z17, .ref z18, .ref z19, .int 0, .int 0, .ref z22, .ref z23, .ref z24, .ref z25, .ref z26, .ref z27, .ref z28, .ref z29, .ref z30, .ref z31, .ref z32, .ref z33, .int 0, .long 0, .ref z36, .ref z37, .ref z38, .ref z39, .ref z40, .ref z41, .ref z42, .ref z43, .ref z44, .ref z45, .ref z46, .ref z47, .ref z48, .int 0, .int 10, .int 0, .int 0, .int 0, .int 0, .ref z55, .ref z56, .int 0, .int 0, .ref z59, .ref z60, .ref z61, .int 0, .long 0])), (x0, .inr (8, [.ref x0g, .int 0, .int 0, .int 0, .int 0, .int 0, .long 0, .ref γ.2.2.2])), (x0g, .inl (γ.2.1 2, 1000, .inl fx0g)), (z2, .inl (γ.2.1 0, 1000, .inl (fun _ => 0)))] s H locs) (ls : Array Slot) (hl : lv_has ls 7 [(4, .int 0), (3, .ref ou), (2, .ref z), (1, .ref x), (0, .ref b)]) : W p l e room_1 s m [Value.ref b].toArray below meth c H locs 251 13922 (lw_Z below #[Value.ref b] s) (F0 m 184 ls []) := by
  have hx := hC.1
  have hb := hC.2.1
  refine lv_aload_n hx hb dL_law_184 rfl (lv_at hl 3 rfl) ?_
  refine lv_aload_n hx hb dL_law_185 rfl (lv_at hl 4 rfl) ?_
  refine lv_iload hx hb dL_law_186 (lv_at hl 0 rfl) ?_
  refine lv_iconst (v := 1) hx hb dL_law_188 (by decide) ?_
  refine lv_iadd hx hb dL_law_189 ?_
  refine lv_topi (fun x_2118 ex_2118 => ?_)
  obtain rfl : x_2118 = 1 := ex_2118.trans (by decide)
  refine va_sld hx hb hX hbl hbA hw.2.2 (k_in0 (by decide)) dL_law_190 ?_
  refine lv_topi (fun x_2119 ex_2119 => ?_)
  obtain rfl : x_2119 = xs 1 := ex_2119
  refine lv_i2l hx hb dL_law_191 rfl ?_
  refine lv_topl (fun x_2120 ex_2120 => ?_)
  refine lv_bipush (v := 32) hx hb dL_law_192 (by decide) ?_
  refine lv_lshl hx hb dL_law_194 rfl ?_
  refine lv_topl (fun x_2121 ex_2121 => ?_)
  refine lv_aload_n hx hb dL_law_195 rfl (lv_at hl 4 rfl) ?_
  refine lv_iload hx hb dL_law_196 (lv_at hl 0 rfl) ?_
  refine lv_iconst (v := 2) hx hb dL_law_198 (by decide) ?_
  refine lv_iadd hx hb dL_law_199 ?_
  refine lv_topi (fun x_2122 ex_2122 => ?_)
  obtain rfl : x_2122 = 2 := ex_2122.trans (by decide)
  refine va_sld hx hb hX hbl hbA hw.2.2 (k_in0 (by decide)) dL_law_200 ?_
  refine lv_topi (fun x_2123 ex_2123 => ?_)
  obtain rfl : x_2123 = xs 2 := ex_2123
  refine lv_i2l hx hb dL_law_201 rfl ?_
  refine lv_topl (fun x_2124 ex_2124 => ?_)
  refine k_ldc2 hC gw_1819 dL_law_202 ?_
  refine lv_land hx hb dL_law_205 ?_
  refine lv_topl (fun x_2125 ex_2125 => ?_)
  refine lv_lor hx hb dL_law_206 ?_
  refine lv_topl (fun x_2126 ex_2126 => ?_)
  refine lv_aload_n hx hb dL_law_207 rfl (lv_at hl 4 rfl) ?_
  refine lv_iload hx hb dL_law_208 (lv_at hl 0 rfl) ?_
  refine lv_iconst (v := 3) hx hb dL_law_210 (by decide) ?_
  refine lv_iadd hx hb dL_law_211 ?_
  refine lv_topi (fun x_2127 ex_2127 => ?_)
  obtain rfl : x_2127 = 3 := ex_2127.trans (by decide)
  refine va_sld hx hb hX hbl hbA hw.2.2 (k_in0 (by decide)) dL_law_212 ?_
  refine lv_topi (fun x_2128 ex_2128 => ?_)
  obtain rfl : x_2128 = xs 3 := ex_2128
  refine lv_i2l hx hb dL_law_213 rfl ?_
  refine lv_topl (fun x_2129 ex_2129 => ?_)
  refine lv_bipush (v := 32) hx hb dL_law_214 (by decide) ?_
  refine lv_lshl hx hb dL_law_216 rfl ?_
  refine lv_topl (fun x_2130 ex_2130 => ?_)
  refine lv_aload_n hx hb dL_law_217 rfl (lv_at hl 4 rfl) ?_
  refine lv_iload hx hb dL_law_218 (lv_at hl 0 rfl) ?_
  refine lv_iconst (v := 4) hx hb dL_law_220 (by decide) ?_
  refine lv_iadd hx hb dL_law_221 ?_
  refine lv_topi (fun x_2131 ex_2131 => ?_)
  obtain rfl : x_2131 = 4 := ex_2131.trans (by decide)
  refine va_sld hx hb hX hbl hbA hw.2.2 (k_in0 (by decide)) dL_law_222 ?_
  refine lv_topi (fun x_2132 ex_2132 => ?_)
  obtain rfl : x_2132 = xs 4 := ex_2132
  refine lv_i2l hx hb dL_law_223 rfl ?_
  refine lv_topl (fun x_2133 ex_2133 => ?_)
  refine k_ldc2 hC gw_1819 dL_law_224 ?_
  refine lv_land hx hb dL_law_227 ?_
  refine lv_topl (fun x_2134 ex_2134 => ?_)
  refine lv_lor hx hb dL_law_228 ?_
  refine lv_topl (fun x_2135 ex_2135 => ?_)
  refine lv_aload_n hx hb dL_law_229 rfl (lv_at hl 4 rfl) ?_
  refine lv_iload hx hb dL_law_230 (lv_at hl 0 rfl) ?_
  refine lv_iconst (v := 5) hx hb dL_law_232 (by decide) ?_
  refine lv_iadd hx hb dL_law_233 ?_
  refine lv_topi (fun x_2136 ex_2136 => ?_)
  obtain rfl : x_2136 = 5 := ex_2136.trans (by decide)
  refine va_sld hx hb hX hbl hbA hw.2.2 (k_in0 (by decide)) dL_law_234 ?_
  refine lv_topi (fun x_2137 ex_2137 => ?_)
  obtain rfl : x_2137 = xs 5 := ex_2137
  refine lv_i2l hx hb dL_law_235 rfl ?_
  refine lv_topl (fun x_2138 ex_2138 => ?_)
  refine lv_bipush (v := 32) hx hb dL_law_236 (by decide) ?_
  refine lv_lshl hx hb dL_law_238 rfl ?_
  refine lv_topl (fun x_2139 ex_2139 => ?_)
  refine lv_aload_n hx hb dL_law_239 rfl (lv_at hl 4 rfl) ?_
  refine lv_iload hx hb dL_law_240 (lv_at hl 0 rfl) ?_
  refine lv_bipush (v := 6) hx hb dL_law_242 (by decide) ?_
  refine lv_iadd hx hb dL_law_244 ?_
  refine lv_topi (fun x_2140 ex_2140 => ?_)
  obtain rfl : x_2140 = 6 := ex_2140.trans (by decide)
  refine va_sld hx hb hX hbl hbA hw.2.2 (k_in0 (by decide)) dL_law_245 ?_
  refine lv_topi (fun x_2141 ex_2141 => ?_)
  obtain rfl : x_2141 = xs 6 := ex_2141
  refine lv_i2l hx hb dL_law_246 rfl ?_
  refine lv_topl (fun x_2142 ex_2142 => ?_)
  refine k_ldc2 hC gw_1819 dL_law_247 ?_
  refine lv_land hx hb dL_law_250 ?_
  refine lv_topl (fun x_2143 ex_2143 => ?_)
  refine lv_lor hx hb dL_law_251 ?_
  refine lv_topl (fun x_2144 ex_2144 => ?_)
  refine k_V (wr := [(z, .inr (11, [.int 0, .int 0, .ref z2, .int 0, .int 0, .int 0, .int 0, .long 0, .int 0, .int 0, .ref z10, .ref z11, .ref z12, .ref z13, .ref z14, .ref z15, .ref z16, .ref z17, .ref z18, .ref z19, .int 0, .int 0, .ref z22, .ref z23, .ref z24, .ref z25, .ref z26, .ref z27, .ref z28, .ref z29, .ref z30, .ref z31, .ref z32, .ref z33, .int 0, .long 0, .ref z36, .ref z37, .ref z38, .ref z39, .ref z40, .ref z41, .ref z42, .ref z43, .ref z44, .ref z45, .ref z46, .ref z47, .ref z48, .int 0, .int 10, .int 0, .int 0, .int 0, .int 0, .ref z55, .ref z56, .int 0, .int 0, .ref z59, .ref z60, .ref z61, .int 0, .long 0])), (z2, .inl (γ.2.1 0, 1000, .inl (fun _ => 0)))]) 3 gw_435 gw_436 gw_437 gw_1 gw_438 hd_X11_feed hC hw (c_X11_feed γ l x x0 x1 x2 x3 x4 x5 x6 x7 x8 x9 x10 x0g fx0g x_2126 x_2135 x_2144) ⟨by decide, by decide⟩ ⟨by decide, by decide⟩ hl.1 rfl 0 rfl rfl rfl (Nat.le_of_ble_eq_true rfl) [0, 2, 3] [1, 4] rfl rfl rfl rfl (by decide) dL_law_252 (fun r w1 H locs hq hw => ?_)
  obtain ⟨rfl, rfl⟩ := hq
  have hw : kW γ A [(z, .inr (11, [.int 0, .int 0, .ref z2, .int 0, .int 0, .int 0, .int 0, .long 0, .int 0, .int 0, .ref z10, .ref z11, .ref z12, .ref z13, .ref z14, .ref z15, .ref z16, .ref z17, .ref z18, .ref z19, .int 0, .int 0, .ref z22, .ref z23, .ref z24, .ref z25, .ref z26, .ref z27, .ref z28, .ref z29, .ref z30, .ref z31, .ref z32, .ref z33, .int 0, .long 0, .ref z36, .ref z37, .ref z38, .ref z39, .ref z40, .ref z41, .ref z42, .ref z43, .ref z44, .ref z45, .ref z46, .ref z47, .ref z48, .int 0, .int 10, .int 0, .int 0, .int 0, .int 0, .ref z55, .ref z56, .int 0, .int 0, .ref z59, .ref z60, .ref z61, .int 0, .long 0])), (z2, .inl (γ.2.1 0, 1000, .inl (fun _ => 0)))] s H locs := hw
  refine W.eq (g2 := F0 m 255 ls [.int (nI (kad x_2144 8 (kad x_2135 8 (kad x_2126 8 0))))]) rfl ?_
  refine lv_aload_n hx hb dL_law_255 rfl (lv_at hl 2 rfl) ?_
  refine lv_aload_n hx hb dL_law_256 rfl (lv_at hl 4 rfl) ?_
  refine lv_iload hx hb dL_law_257 (lv_at hl 0 rfl) ?_
  refine lv_iconst (v := 1) hx hb dL_law_259 (by decide) ?_
  refine lv_iadd hx hb dL_law_260 ?_
  refine lv_topi (fun x_2145 ex_2145 => ?_)
  obtain rfl : x_2145 = 1 := ex_2145.trans (by decide)
  refine va_sld hx hb hX hbl hbA hw.2.2 (k_in0 (by decide)) dL_law_261 ?_
  refine lv_topi (fun x_2146 ex_2146 => ?_)
  obtain rfl : x_2146 = xs 1 := ex_2146
  refine lv_i2l hx hb dL_law_262 rfl ?_
  refine lv_topl (fun x_2147 ex_2147 => ?_)
  obtain rfl : x_2120 = x_2147 := ex_2120.trans ex_2147.symm
  refine lv_bipush (v := 32) hx hb dL_law_263 (by decide) ?_
  refine lv_lshl hx hb dL_law_265 rfl ?_
  refine lv_topl (fun x_2148 ex_2148 => ?_)
  obtain rfl : x_2121 = x_2148 := ex_2121.trans ex_2148.symm
  refine lv_aload_n hx hb dL_law_266 rfl (lv_at hl 4 rfl) ?_
  refine lv_iload hx hb dL_law_267 (lv_at hl 0 rfl) ?_
  refine lv_iconst (v := 2) hx hb dL_law_269 (by decide) ?_
  refine lv_iadd hx hb dL_law_270 ?_
  refine lv_topi (fun x_2149 ex_2149 => ?_)
  obtain rfl : x_2149 = 2 := ex_2149.trans (by decide)
  refine va_sld hx hb hX hbl hbA hw.2.2 (k_in0 (by decide)) dL_law_271 ?_
  refine lv_topi (fun x_2150 ex_2150 => ?_)
  obtain rfl : x_2150 = xs 2 := ex_2150
  refine lv_i2l hx hb dL_law_272 rfl ?_
  refine lv_topl (fun x_2151 ex_2151 => ?_)
  obtain rfl : x_2124 = x_2151 := ex_2124.trans ex_2151.symm
  refine k_ldc2 hC gw_1819 dL_law_273 ?_
  refine lv_land hx hb dL_law_276 ?_
  refine lv_topl (fun x_2152 ex_2152 => ?_)
  obtain rfl : x_2125 = x_2152 := ex_2125.trans ex_2152.symm
  refine lv_lor hx hb dL_law_277 ?_
  refine lv_topl (fun x_2153 ex_2153 => ?_)
  obtain rfl : x_2126 = x_2153 := ex_2126.trans ex_2153.symm
  refine lv_aload_n hx hb dL_law_278 rfl (lv_at hl 4 rfl) ?_
  refine lv_iload hx hb dL_law_279 (lv_at hl 0 rfl) ?_
  refine lv_iconst (v := 3) hx hb dL_law_281 (by decide) ?_
  refine lv_iadd hx hb dL_law_282 ?_
  refine lv_topi (fun x_2154 ex_2154 => ?_)
  obtain rfl : x_2154 = 3 := ex_2154.trans (by decide)
  refine va_sld hx hb hX hbl hbA hw.2.2 (k_in0 (by decide)) dL_law_283 ?_
  refine lv_topi (fun x_2155 ex_2155 => ?_)
  obtain rfl : x_2155 = xs 3 := ex_2155
  refine lv_i2l hx hb dL_law_284 rfl ?_
  refine lv_topl (fun x_2156 ex_2156 => ?_)
  obtain rfl : x_2129 = x_2156 := ex_2129.trans ex_2156.symm
  refine lv_bipush (v := 32) hx hb dL_law_285 (by decide) ?_
  refine lv_lshl hx hb dL_law_287 rfl ?_
  refine lv_topl (fun x_2157 ex_2157 => ?_)
  obtain rfl : x_2130 = x_2157 := ex_2130.trans ex_2157.symm
  refine lv_aload_n hx hb dL_law_288 rfl (lv_at hl 4 rfl) ?_
  refine lv_iload hx hb dL_law_289 (lv_at hl 0 rfl) ?_
  refine lv_iconst (v := 4) hx hb dL_law_291 (by decide) ?_
  refine lv_iadd hx hb dL_law_292 ?_
  refine lv_topi (fun x_2158 ex_2158 => ?_)
  obtain rfl : x_2158 = 4 := ex_2158.trans (by decide)
  refine va_sld hx hb hX hbl hbA hw.2.2 (k_in0 (by decide)) dL_law_293 ?_
  refine lv_topi (fun x_2159 ex_2159 => ?_)
  obtain rfl : x_2159 = xs 4 := ex_2159
  refine lv_i2l hx hb dL_law_294 rfl ?_
  refine lv_topl (fun x_2160 ex_2160 => ?_)
  obtain rfl : x_2133 = x_2160 := ex_2133.trans ex_2160.symm
  refine k_ldc2 hC gw_1819 dL_law_295 ?_
  refine lv_land hx hb dL_law_298 ?_
  refine lv_topl (fun x_2161 ex_2161 => ?_)
  obtain rfl : x_2134 = x_2161 := ex_2134.trans ex_2161.symm
  refine lv_lor hx hb dL_law_299 ?_
  refine lv_topl (fun x_2162 ex_2162 => ?_)
  obtain rfl : x_2135 = x_2162 := ex_2135.trans ex_2162.symm
  refine lv_aload_n hx hb dL_law_300 rfl (lv_at hl 4 rfl) ?_
  refine lv_iload hx hb dL_law_301 (lv_at hl 0 rfl) ?_
  refine lv_iconst (v := 5) hx hb dL_law_303 (by decide) ?_
  refine lv_iadd hx hb dL_law_304 ?_
  refine lv_topi (fun x_2163 ex_2163 => ?_)
  obtain rfl : x_2163 = 5 := ex_2163.trans (by decide)
  refine va_sld hx hb hX hbl hbA hw.2.2 (k_in0 (by decide)) dL_law_305 ?_
  refine lv_topi (fun x_2164 ex_2164 => ?_)
  obtain rfl : x_2164 = xs 5 := ex_2164
  refine lv_i2l hx hb dL_law_306 rfl ?_
  refine lv_topl (fun x_2165 ex_2165 => ?_)
  obtain rfl : x_2138 = x_2165 := ex_2138.trans ex_2165.symm
  refine lv_bipush (v := 32) hx hb dL_law_307 (by decide) ?_
  refine lv_lshl hx hb dL_law_309 rfl ?_
  refine lv_topl (fun x_2166 ex_2166 => ?_)
  obtain rfl : x_2139 = x_2166 := ex_2139.trans ex_2166.symm
  refine lv_aload_n hx hb dL_law_310 rfl (lv_at hl 4 rfl) ?_
  refine lv_iload hx hb dL_law_311 (lv_at hl 0 rfl) ?_
  refine lv_bipush (v := 6) hx hb dL_law_313 (by decide) ?_
  refine lv_iadd hx hb dL_law_315 ?_
  refine lv_topi (fun x_2167 ex_2167 => ?_)
  obtain rfl : x_2167 = 6 := ex_2167.trans (by decide)
  refine va_sld hx hb hX hbl hbA hw.2.2 (k_in0 (by decide)) dL_law_316 ?_
  refine lv_topi (fun x_2168 ex_2168 => ?_)
  obtain rfl : x_2168 = xs 6 := ex_2168
  refine lv_i2l hx hb dL_law_317 rfl ?_
  refine lv_topl (fun x_2169 ex_2169 => ?_)
  obtain rfl : x_2142 = x_2169 := ex_2142.trans ex_2169.symm
  refine k_ldc2 hC gw_1819 dL_law_318 ?_
  refine lv_land hx hb dL_law_321 ?_
  refine lv_topl (fun x_2170 ex_2170 => ?_)
  obtain rfl : x_2143 = x_2170 := ex_2143.trans ex_2170.symm
  refine lv_lor hx hb dL_law_322 ?_
  refine lv_topl (fun x_2171 ex_2171 => ?_)
  obtain rfl : x_2144 = x_2171 := ex_2144.trans ex_2171.symm
  refine k_V (wr := []) 3 gw_1389 gw_1390 gw_1391 gw_15 gw_1392 hd_X12_feed hC hw (c_X12_feed γ l z z2 z10 z11 z12 z13 z14 z15 z16 z17 z18 z19 z22 z23 z24 z25 z26 z27 z28 z29 z30 z31 z32 z33 z36 z37 z38 z39 z40 z41 z42 z43 z44 z45 z46 z47 z48 z55 z56 z59 z60 z61 x_2126 x_2135 x_2144 (fun _ => 0)) ⟨by decide, by decide⟩ ⟨by decide, by decide⟩ hl.1 rfl 0 rfl rfl rfl (Nat.le_of_ble_eq_true rfl) [0, 1] [] rfl rfl rfl rfl (by decide) dL_law_323 (fun r w1 H locs hq hw => ?_)
  obtain ⟨rfl, rfl⟩ := hq
  have hw : kW γ A [] s H locs := hw
  refine W.eq (g2 := F0 m 326 ls [.int (nI (kad x_2144 8 (kad x_2135 8 (kad x_2126 8 0)))), .int (nI (kad x_2144 8 (kad x_2135 8 (kad x_2126 8 0))))]) rfl ?_
  refine lv_icmp_eq (tgt := 1370) hx hb dL_law_326 (by decide) (fun _ => ?_) (fun h => absurd rfl h)
  exact law_end hC hr hlocks hX hbl hbA hAs hl9 _ _ (kW.sub hw [] rfl rfl) (by decide) (by decide) _ (lv_sub hl [0, 4] rfl)

set_option maxHeartbeats 4000000 in
set_option maxRecDepth 100000 in
theorem lc_10_0 {γ : kΓ} {l : Launch} {p : Program} {e : Env} {s : State} {m : MethodId} {below : List Frame} {meth : Method} {c : Code} {A : Nat → Prop} {b : Nat} {xs : Nat → Int32} (hC : kC γ p s m [Value.ref b].toArray c code 7 RL A) (hr : meth.sig.returnType = ret) (hlocks : meth.locks = false) (hX : va_X b 7 xs s s.heap) (hbl : b < s.heap.size) (hbA : ¬ A b) (hAs : ∀ q, A q → s.heap.size ≤ q) (hl9 : l.stackTraces = false) (x : Nat) (x0 : Nat) (x1 : Nat) (x2 : Nat) (x3 : Nat) (x4 : Nat) (x5 : Nat) (x6 : Nat) (x7 : Nat) (x8 : Nat) (x9 : Nat) (x10 : Nat) (z : Nat) (z2 : Nat) (z10 : Nat) (z11 : Nat) (z12 : Nat) (z13 : Nat) (z14 : Nat) (z15 : Nat) (z16 : Nat) (z17 : Nat) (z18 : Nat) (z19 : Nat) (z22 : Nat) (z23 : Nat) (z24 : Nat) (z25 : Nat) (z26 : Nat) (z27 : Nat) (z28 : Nat) (z29 : Nat) (z30 : Nat) (z31 : Nat) (z32 : Nat) (z33 : Nat) (z36 : Nat) (z37 : Nat) (z38 : Nat) (z39 : Nat) (z40 : Nat) (z41 : Nat) (z42 : Nat) (z43 : Nat) (z44 : Nat) (z45 : Nat) (z46 : Nat) (z47 : Nat) (z48 : Nat) (z55 : Nat) (z56 : Nat) (z59 : Nat) (z60 : Nat) (z61 : Nat) (x90 : Nat) (x91 : Nat) (x92 : Nat) (x93 : Nat) (x94 : Nat) (x95 : Nat) (x96 : Nat) (x97 : Nat) (x4s : Nat) (x4s_l : Nat) (x4s_c : Nat) (x4s_g : Nat) (x4s_r : Nat) (x4s_k : Nat) (x4s_b : Nat) (fx4s_l : Nat → Int32) (fx4s_c : Nat → Int32) (fx4s_g : Nat → Int32) (fx4s_r : Nat → Int64) (fx4s_k : Nat → Int32) (fx4s_b : Nat → Int32) (x2s : Nat) (x2y : Nat) (x2q : Nat) (fa : Nat → Int32) (ou : Nat) (ha0 : fa 0 = 0) (ha1 : fa 1 = 0) (ha2 : fa 2 = 10) (ha3 : fa 3 = 10) (ha4 : fa 4 = 3) (hv : xs 1 = 0) (H : Heap) (locs : List Loc) (hw : kW γ A [(x, .inr (10, [.ref x0, .ref x1, .ref x2, .ref x3, .ref x4, .ref x5, .ref x6, .ref x7, .ref x8, .ref x9, .ref x10])), (z, .inr (11, [.int 0, .int 0, .ref z2, .int 0, .int 0, .int 0, .int 0, .long 0, .int 0, .int 0, .ref z10, .ref z11, .ref z12, .ref z13, .ref z14, .ref z15, .ref z16, .ref z17, .ref z18, .ref z19, .int 0, .int 0, .ref z22, .ref z23, .ref z24, .ref z25, .ref z26, .ref z27, .ref z28, .ref z29, .ref z30, .ref z31, .ref z32, .ref z33, .int 0, .long 0, .ref z36, .ref z37, .ref z38, .ref z39, .ref z40, .ref z41, .ref z42, .ref z43, .ref z44, .ref z45, .ref z46, .ref z47, .ref z48, .int 0, .int 10, .int 0, .int 0, .int 0, .int 0, .ref z55, .ref z56, .int 0, .int 0, .ref z59, .ref z60, .ref z61, .int 0, .long 0])), (x9, .inr (0, [.ref x90, .ref x91, .ref x92, .ref x93, .ref x94, .ref x95, .ref x96, .ref x97, .int 0, .int 0, .int 10, .int 10, .int 3, .int 0, .int 0, .int 0, .int 0, .int 0, .int 0])), (x4, .inr (2, [.ref x4s, .int 0, .int 0, .int 0, .long 0])), (x4s, .inr (7, [.ref x4s_l, .ref x4s_c, .ref x4s_g, .ref x4s_r, .ref x4s_k, .ref x4s_b, .int 0, .int 0, .int 0])), (x4s_l, .inl (γ.2.1 0, 5, .inl fx4s_l)), (x4s_c, .inl (γ.2.1 0, 5, .inl fx4s_c)), (x4s_g, .inl (γ.2.1 0, 5, .inl fx4s_g)), (x4s_r, .inl (γ.2.1 1, 5, .inr (.inl fx4s_r))), (x4s_k, .inl (γ.2.1 0, 40, .inl fx4s_k)), (x4s_b, .inl (γ.2.1 0, 8, .inl fx4s_b)), (x2, .inr (3, [.ref x2s, .ref x2y, .ref x2q, .int 0, .int 0, .int 0])), (z10, .inl (γ.2.1 0, 10, .inl fa)), (z43, .inl (γ.2.1 0, 133, .inl (fun _ => 0))), (z44, .inl (γ.2.1 0, 133, .inl (fun _ => 0))), (z36, .inl (γ.2.1 0, 6, .inl (fun _ => 0))), (ou, .inl (γ.2.1 1, 1, .inr (.inl (fun _ => 0))))] s H locs) (ls : Array Slot) (hl : lv_has ls 7 [(4, .int 0), (3, .ref ou), (2, .ref z), (1, .ref x), (0, .ref b)]) : W p l e room_1 s m [Value.ref b].toArray below meth c H locs 251 13922 (lw_Z below #[Value.ref b] s) (F0 m 580 ls []) := by
  have hx := hC.1
  have hb := hC.2.1
  refine lv_aload_n hx hb dL_law_580 rfl (lv_at hl 3 rfl) ?_
  refine lv_aload_n hx hb dL_law_581 rfl (lv_at hl 4 rfl) ?_
  refine lv_iload hx hb dL_law_582 (lv_at hl 0 rfl) ?_
  refine lv_iconst (v := 1) hx hb dL_law_584 (by decide) ?_
  refine lv_iadd hx hb dL_law_585 ?_
  refine lv_topi (fun x_2172 ex_2172 => ?_)
  obtain rfl : x_2172 = 1 := ex_2172.trans (by decide)
  refine va_sld hx hb hX hbl hbA hw.2.2 (k_in0 (by decide)) dL_law_586 ?_
  refine lv_topi (fun x_2173 ex_2173 => ?_)
  obtain rfl : x_2173 = 0 := (show x_2173 = xs 1 from ex_2173).trans hv
  refine lv_aload_n hx hb dL_law_587 rfl (lv_at hl 1 rfl) ?_
  refine k_SW (wr := [(z, .inr (11, [.int 0, .int 0, .ref z2, .int 0, .int 0, .int 0, .int 0, .long 0, .int 0, .int 0, .ref z10, .ref z11, .ref z12, .ref z13, .ref z14, .ref z15, .ref z16, .ref z17, .ref z18, .ref z19, .int 0, .int 0, .ref z22, .ref z23, .ref z24, .ref z25, .ref z26, .ref z27, .ref z28, .ref z29, .ref z30, .ref z31, .ref z32, .ref z33, .int 0, .long 0, .ref z36, .ref z37, .ref z38, .ref z39, .ref z40, .ref z41, .ref z42, .ref z43, .ref z44, .ref z45, .ref z46, .ref z47, .ref z48, .int 0, .int 10, .int 0, .int 0, .int 0, .int 0, .ref z55, .ref z56, .int 0, .int 0, .ref z59, .ref z60, .ref z61, .int 0, .long 0])), (z10, .inl (γ.2.1 0, 10, .inl fa)), (z43, .inl (γ.2.1 0, 133, .inl (fun _ => 0))), (z44, .inl (γ.2.1 0, 133, .inl (fun _ => 0))), (z36, .inl (γ.2.1 0, 6, .inl (fun _ => 0)))]) 3 gw_1021 gw_1022 gw_0 gw_1023 hd_L_judged hC hw (c_L_judged_0 γ l hl9 x x0 x1 x2 x3 x4 x5 x6 x7 x8 x9 x10 x90 x91 x92 x93 x94 x95 x96 x97 x4s x4s_l x4s_c x4s_g x4s_r x4s_k x4s_b fx4s_l fx4s_c fx4s_g fx4s_r fx4s_k fx4s_b x2s x2y x2q ou (fun _ => 0)) ⟨by decide, by decide⟩ ⟨by decide, by decide⟩ hl.1 rfl rfl (Nat.le_of_ble_eq_true rfl) [0, 2, 3, 4, 5, 6, 7, 8, 9, 10, 11, 16] [1, 12, 13, 14, 15] rfl rfl rfl rfl (by decide) dL_law_588 (fun r w1 H locs hq hw => ?_)
  obtain ⟨fo9_2174, rfl, rfl, g_2175⟩ := hq
  have hw : kW γ A [(z, .inr (11, [.int 0, .int 0, .ref z2, .int 0, .int 0, .int 0, .int 0, .long 0, .int 0, .int 0, .ref z10, .ref z11, .ref z12, .ref z13, .ref z14, .ref z15, .ref z16, .ref z17, .ref z18, .ref z19, .int 0, .int 0, .ref z22, .ref z23, .ref z24, .ref z25, .ref z26, .ref z27, .ref z28, .ref z29, .ref z30, .ref z31, .ref z32, .ref z33, .int 0, .long 0, .ref z36, .ref z37, .ref z38, .ref z39, .ref z40, .ref z41, .ref z42, .ref z43, .ref z44, .ref z45, .ref z46, .ref z47, .ref z48, .int 0, .int 10, .int 0, .int 0, .int 0, .int 0, .ref z55, .ref z56, .int 0, .int 0, .ref z59, .ref z60, .ref z61, .int 0, .long 0])), (z10, .inl (γ.2.1 0, 10, .inl fa)), (z43, .inl (γ.2.1 0, 133, .inl (fun _ => 0))), (z44, .inl (γ.2.1 0, 133, .inl (fun _ => 0))), (z36, .inl (γ.2.1 0, 6, .inl (fun _ => 0))), (ou, .inl (γ.2.1 1, 1, .inr (.inl fo9_2174)))] s H locs := hw
  refine W.eq (g2 := F0 m 591 ls [.int 0]) rfl ?_
  refine lv_istore (lv' := [(5, .int 0), (4, .int 0), (3, .ref ou), (2, .ref z), (1, .ref x), (0, .ref b)]) hx hb dL_law_591 hl (by decide) rfl (fun ls hl => ?_)
  refine lv_aload_n hx hb dL_law_593 rfl (lv_at hl 3 rfl) ?_
  refine lv_aload_n hx hb dL_law_594 rfl (lv_at hl 5 rfl) ?_
  refine lv_iload hx hb dL_law_595 (lv_at hl 1 rfl) ?_
  refine lv_iconst (v := 1) hx hb dL_law_597 (by decide) ?_
  refine lv_iadd hx hb dL_law_598 ?_
  refine lv_topi (fun x_2176 ex_2176 => ?_)
  obtain rfl : x_2176 = 1 := ex_2176.trans (by decide)
  refine va_sld hx hb hX hbl hbA hw.2.2 (k_in0 (by decide)) dL_law_599 ?_
  refine lv_topi (fun x_2177 ex_2177 => ?_)
  obtain rfl : x_2177 = 0 := (show x_2177 = xs 1 from ex_2177).trans hv
  refine k_V (wr := [(ou, .inl (γ.2.1 1, 1, .inr (.inl fo9_2174)))]) 1 gw_1656 gw_1657 gw_1658 gw_15 gw_1659 hd_X12_judged hC hw (c_X12_judged_0 γ l z z2 z10 z11 z12 z13 z14 z15 z16 z17 z18 z19 z22 z23 z24 z25 z26 z27 z28 z29 z30 z31 z32 z33 z36 z37 z38 z39 z40 z41 z42 z43 z44 z45 z46 z47 z48 z55 z56 z59 z60 z61 fa (fun _ => 0) (fun _ => 0) ha0 ha1 ha2 ha3 ha4) ⟨by decide, by decide⟩ ⟨by decide, by decide⟩ hl.1 rfl 0 rfl rfl rfl (Nat.le_of_ble_eq_true rfl) [0, 1, 2, 3, 4] [5] rfl rfl rfl rfl (by decide) dL_law_600 (fun r w1 H locs hq hw => ?_)
  obtain ⟨rfl, rfl⟩ := hq
  have hw : kW γ A [(ou, .inl (γ.2.1 1, 1, .inr (.inl fo9_2174))), (z, .inr (11, [.int 0, .int 0, .ref z2, .int 0, .int 0, .int 0, .int 0, .long 0, .int 0, .int 0, .ref z10, .ref z11, .ref z12, .ref z13, .ref z14, .ref z15, .ref z16, .ref z17, .ref z18, .ref z19, .int 0, .int 0, .ref z22, .ref z23, .ref z24, .ref z25, .ref z26, .ref z27, .ref z28, .ref z29, .ref z30, .ref z31, .ref z32, .ref z33, .int 0, .long 0, .ref z36, .ref z37, .ref z38, .ref z39, .ref z40, .ref z41, .ref z42, .ref z43, .ref z44, .ref z45, .ref z46, .ref z47, .ref z48, .int 0, .int 10, .int (-1), .int (-1), .int 0, .int 0, .ref z55, .ref z56, .int 0, .int 0, .ref z59, .ref z60, .ref z61, .int 0, .long 0]))] s H locs := hw
  refine W.eq (g2 := F0 m 603 ls [.int (-1)]) rfl ?_
  refine lv_istore (lv' := [(6, .int (-1)), (5, .int 0), (4, .int 0), (3, .ref ou), (2, .ref z), (1, .ref x), (0, .ref b)]) hx hb dL_law_603 hl (by decide) rfl (fun ls hl => ?_)
  refine lv_aload_n hx hb dL_law_605 rfl (lv_at hl 4 rfl) ?_
  refine k_V (wr := [(ou, .inl (γ.2.1 1, 1, .inr (.inl fo9_2174)))]) 0 gw_1385 gw_1386 gw_1387 gw_15 gw_1388 hd_X12_thrown hC hw (c_X12_thrown γ l z z2 z10 z11 z12 z13 z14 z15 z16 z17 z18 z19 z22 z23 z24 z25 z26 z27 z28 z29 z30 z31 z32 z33 z36 z37 z38 z39 z40 z41 z42 z43 z44 z45 z46 z47 z48 z55 z56 z59 z60 z61 0 0 0 0 0 0 0 0 0 0 0 0 0 10 (-1) (-1) 0 0 0 0 0 0 0) ⟨by decide, by decide⟩ ⟨by decide, by decide⟩ hl.1 rfl 1 rfl rfl rfl (Nat.le_of_ble_eq_true rfl) [1] [0] rfl rfl rfl rfl (by decide) dL_law_606 (fun r w1 H locs hq hw => ?_)
  obtain ⟨rfl, rfl⟩ := hq
  have hw : kW γ A [(ou, .inl (γ.2.1 1, 1, .inr (.inl fo9_2174)))] s H locs := hw
  refine W.eq (g2 := F0 m 609 ls [.int 0]) rfl ?_
  refine lv_iload hx hb dL_law_609 (lv_at hl 1 rfl) ?_
  refine lv_icmp_eq (tgt := 616) hx hb dL_law_611 (by decide) (fun _ => ?_) (fun h => absurd (by decide) h)
  refine lv_iload hx hb dL_law_616 (lv_at hl 1 rfl) ?_
  refine lv_if_ne (tgt := 633) hx hb dL_law_618 (by decide) (fun h => absurd rfl h) (fun _ => ?_)
  refine lv_aload_n hx hb dL_law_621 rfl (lv_at hl 3 rfl) ?_
  refine lv_iconst (v := 0) hx hb dL_law_622 (by decide) ?_
  refine k_lald hC hw 0 rfl (k_in0 (by decide)) dL_law_623 ?_
  refine lv_topl (fun x_2178 ex_2178 => ?_)
  obtain rfl : x_2178 = ((-1) : Int32).toInt64 := (show x_2178 = fo9_2174 0 from ex_2178).trans g_2175
  refine lv_iload hx hb dL_law_624 (lv_at hl 0 rfl) ?_
  refine lv_i2l hx hb dL_law_626 rfl ?_
  refine lv_topl (fun x_2179 ex_2179 => ?_)
  obtain rfl : x_2179 = ((-1) : Int32).toInt64 := ex_2179
  refine W.lcmp hx hb dL_law_627 ?_
  refine lv_topi (fun x_2180 ex_2180 => ?_)
  obtain rfl : x_2180 = 0 := ex_2180.trans (k_cmp_self _)
  refine lv_if_eq (tgt := 633) hx hb dL_law_628 (by decide) (fun _ => ?_) (fun h => absurd (by decide) h)
  refine lv_goto (tgt := 1370) hx hb dL_law_633 (by decide) ?_
  exact law_end hC hr hlocks hX hbl hbA hAs hl9 _ _ (kW.sub hw [] rfl rfl) (by decide) (by decide) _ (lv_sub hl [2, 6] rfl)

set_option maxHeartbeats 4000000 in
set_option maxRecDepth 100000 in
theorem lc_10_1 {γ : kΓ} {l : Launch} {p : Program} {e : Env} {s : State} {m : MethodId} {below : List Frame} {meth : Method} {c : Code} {A : Nat → Prop} {b : Nat} {xs : Nat → Int32} (hC : kC γ p s m [Value.ref b].toArray c code 7 RL A) (hr : meth.sig.returnType = ret) (hlocks : meth.locks = false) (hX : va_X b 7 xs s s.heap) (hbl : b < s.heap.size) (hbA : ¬ A b) (hAs : ∀ q, A q → s.heap.size ≤ q) (hl9 : l.stackTraces = false) (x : Nat) (x0 : Nat) (x1 : Nat) (x2 : Nat) (x3 : Nat) (x4 : Nat) (x5 : Nat) (x6 : Nat) (x7 : Nat) (x8 : Nat) (x9 : Nat) (x10 : Nat) (z : Nat) (z2 : Nat) (z10 : Nat) (z11 : Nat) (z12 : Nat) (z13 : Nat) (z14 : Nat) (z15 : Nat) (z16 : Nat) (z17 : Nat) (z18 : Nat) (z19 : Nat) (z22 : Nat) (z23 : Nat) (z24 : Nat) (z25 : Nat) (z26 : Nat) (z27 : Nat) (z28 : Nat) (z29 : Nat) (z30 : Nat) (z31 : Nat) (z32 : Nat) (z33 : Nat) (z36 : Nat) (z37 : Nat) (z38 : Nat) (z39 : Nat) (z40 : Nat) (z41 : Nat) (z42 : Nat) (z43 : Nat) (z44 : Nat) (z45 : Nat) (z46 : Nat) (z47 : Nat) (z48 : Nat) (z55 : Nat) (z56 : Nat) (z59 : Nat) (z60 : Nat) (z61 : Nat) (x90 : Nat) (x91 : Nat) (x92 : Nat) (x93 : Nat) (x94 : Nat) (x95 : Nat) (x96 : Nat) (x97 : Nat) (x4s : Nat) (x4s_l : Nat) (x4s_c : Nat) (x4s_g : Nat) (x4s_r : Nat) (x4s_k : Nat) (x4s_b : Nat) (fx4s_l : Nat → Int32) (fx4s_c : Nat → Int32) (fx4s_g : Nat → Int32) (fx4s_r : Nat → Int64) (fx4s_k : Nat → Int32) (fx4s_b : Nat → Int32) (x2s : Nat) (x2y : Nat) (x2q : Nat) (fa : Nat → Int32) (ou : Nat) (ha0 : fa 0 = 0) (ha1 : fa 1 = 0) (ha2 : fa 2 = 10) (ha3 : fa 3 = 10) (ha4 : fa 4 = 3) (hv : xs 1 = 1) (H : Heap) (locs : List Loc) (hw : kW γ A [(x, .inr (10, [.ref x0, .ref x1, .ref x2, .ref x3, .ref x4, .ref x5, .ref x6, .ref x7, .ref x8, .ref x9, .ref x10])), (z, .inr (11, [.int 0, .int 0, .ref z2, .int 0, .int 0, .int 0, .int 0, .long 0, .int 0, .int 0, .ref z10, .ref z11, .ref z12, .ref z13, .ref z14, .ref z15, .ref z16, .ref z17, .ref z18, .ref z19, .int 0, .int 0, .ref z22, .ref z23, .ref z24, .ref z25, .ref z26, .ref z27, .ref z28, .ref z29, .ref z30, .ref z31, .ref z32, .ref z33, .int 0, .long 0, .ref z36, .ref z37, .ref z38, .ref z39, .ref z40, .ref z41, .ref z42, .ref z43, .ref z44, .ref z45, .ref z46, .ref z47, .ref z48, .int 0, .int 10, .int 0, .int 0, .int 0, .int 0, .ref z55, .ref z56, .int 0, .int 0, .ref z59, .ref z60, .ref z61, .int 0, .long 0])), (x9, .inr (0, [.ref x90, .ref x91, .ref x92, .ref x93, .ref x94, .ref x95, .ref x96, .ref x97, .int 0, .int 0, .int 10, .int 10, .int 3, .int 0, .int 0, .int 0, .int 0, .int 0, .int 0])), (x4, .inr (2, [.ref x4s, .int 0, .int 0, .int 0, .long 0])), (x4s, .inr (7, [.ref x4s_l, .ref x4s_c, .ref x4s_g, .ref x4s_r, .ref x4s_k, .ref x4s_b, .int 0, .int 0, .int 0])), (x4s_l, .inl (γ.2.1 0, 5, .inl fx4s_l)), (x4s_c, .inl (γ.2.1 0, 5, .inl fx4s_c)), (x4s_g, .inl (γ.2.1 0, 5, .inl fx4s_g)), (x4s_r, .inl (γ.2.1 1, 5, .inr (.inl fx4s_r))), (x4s_k, .inl (γ.2.1 0, 40, .inl fx4s_k)), (x4s_b, .inl (γ.2.1 0, 8, .inl fx4s_b)), (x2, .inr (3, [.ref x2s, .ref x2y, .ref x2q, .int 0, .int 0, .int 0])), (z10, .inl (γ.2.1 0, 10, .inl fa)), (z43, .inl (γ.2.1 0, 133, .inl (fun _ => 0))), (z44, .inl (γ.2.1 0, 133, .inl (fun _ => 0))), (z36, .inl (γ.2.1 0, 6, .inl (fun _ => 0))), (ou, .inl (γ.2.1 1, 1, .inr (.inl (fun _ => 0))))] s H locs) (ls : Array Slot) (hl : lv_has ls 7 [(4, .int 0), (3, .ref ou), (2, .ref z), (1, .ref x), (0, .ref b)]) : W p l e room_1 s m [Value.ref b].toArray below meth c H locs 251 13922 (lw_Z below #[Value.ref b] s) (F0 m 580 ls []) := by
  have hx := hC.1
  have hb := hC.2.1
  refine lv_aload_n hx hb dL_law_580 rfl (lv_at hl 3 rfl) ?_
  refine lv_aload_n hx hb dL_law_581 rfl (lv_at hl 4 rfl) ?_
  refine lv_iload hx hb dL_law_582 (lv_at hl 0 rfl) ?_
  refine lv_iconst (v := 1) hx hb dL_law_584 (by decide) ?_
  refine lv_iadd hx hb dL_law_585 ?_
  refine lv_topi (fun x_2181 ex_2181 => ?_)
  obtain rfl : x_2181 = 1 := ex_2181.trans (by decide)
  refine va_sld hx hb hX hbl hbA hw.2.2 (k_in0 (by decide)) dL_law_586 ?_
  refine lv_topi (fun x_2182 ex_2182 => ?_)
  obtain rfl : x_2182 = 1 := (show x_2182 = xs 1 from ex_2182).trans hv
  refine lv_aload_n hx hb dL_law_587 rfl (lv_at hl 1 rfl) ?_
  refine k_SW (wr := [(z, .inr (11, [.int 0, .int 0, .ref z2, .int 0, .int 0, .int 0, .int 0, .long 0, .int 0, .int 0, .ref z10, .ref z11, .ref z12, .ref z13, .ref z14, .ref z15, .ref z16, .ref z17, .ref z18, .ref z19, .int 0, .int 0, .ref z22, .ref z23, .ref z24, .ref z25, .ref z26, .ref z27, .ref z28, .ref z29, .ref z30, .ref z31, .ref z32, .ref z33, .int 0, .long 0, .ref z36, .ref z37, .ref z38, .ref z39, .ref z40, .ref z41, .ref z42, .ref z43, .ref z44, .ref z45, .ref z46, .ref z47, .ref z48, .int 0, .int 10, .int 0, .int 0, .int 0, .int 0, .ref z55, .ref z56, .int 0, .int 0, .ref z59, .ref z60, .ref z61, .int 0, .long 0])), (z10, .inl (γ.2.1 0, 10, .inl fa)), (z43, .inl (γ.2.1 0, 133, .inl (fun _ => 0))), (z44, .inl (γ.2.1 0, 133, .inl (fun _ => 0))), (z36, .inl (γ.2.1 0, 6, .inl (fun _ => 0)))]) 3 gw_1021 gw_1022 gw_0 gw_1023 hd_L_judged hC hw (c_L_judged_1 γ l hl9 x x0 x1 x2 x3 x4 x5 x6 x7 x8 x9 x10 x90 x91 x92 x93 x94 x95 x96 x97 x4s x4s_l x4s_c x4s_g x4s_r x4s_k x4s_b fx4s_l fx4s_c fx4s_g fx4s_r fx4s_k fx4s_b x2s x2y x2q ou (fun _ => 0)) ⟨by decide, by decide⟩ ⟨by decide, by decide⟩ hl.1 rfl rfl (Nat.le_of_ble_eq_true rfl) [0, 2, 3, 4, 5, 6, 7, 8, 9, 10, 11, 16] [1, 12, 13, 14, 15] rfl rfl rfl rfl (by decide) dL_law_588 (fun r w1 H locs hq hw => ?_)
  obtain ⟨fo9_2183, rfl, rfl, g_2184⟩ := hq
  have hw : kW γ A [(z, .inr (11, [.int 0, .int 0, .ref z2, .int 0, .int 0, .int 0, .int 0, .long 0, .int 0, .int 0, .ref z10, .ref z11, .ref z12, .ref z13, .ref z14, .ref z15, .ref z16, .ref z17, .ref z18, .ref z19, .int 0, .int 0, .ref z22, .ref z23, .ref z24, .ref z25, .ref z26, .ref z27, .ref z28, .ref z29, .ref z30, .ref z31, .ref z32, .ref z33, .int 0, .long 0, .ref z36, .ref z37, .ref z38, .ref z39, .ref z40, .ref z41, .ref z42, .ref z43, .ref z44, .ref z45, .ref z46, .ref z47, .ref z48, .int 0, .int 10, .int 0, .int 0, .int 0, .int 0, .ref z55, .ref z56, .int 0, .int 0, .ref z59, .ref z60, .ref z61, .int 0, .long 0])), (z10, .inl (γ.2.1 0, 10, .inl fa)), (z43, .inl (γ.2.1 0, 133, .inl (fun _ => 0))), (z44, .inl (γ.2.1 0, 133, .inl (fun _ => 0))), (z36, .inl (γ.2.1 0, 6, .inl (fun _ => 0))), (ou, .inl (γ.2.1 1, 1, .inr (.inl fo9_2183)))] s H locs := hw
  refine W.eq (g2 := F0 m 591 ls [.int 0]) rfl ?_
  refine lv_istore (lv' := [(5, .int 0), (4, .int 0), (3, .ref ou), (2, .ref z), (1, .ref x), (0, .ref b)]) hx hb dL_law_591 hl (by decide) rfl (fun ls hl => ?_)
  refine lv_aload_n hx hb dL_law_593 rfl (lv_at hl 3 rfl) ?_
  refine lv_aload_n hx hb dL_law_594 rfl (lv_at hl 5 rfl) ?_
  refine lv_iload hx hb dL_law_595 (lv_at hl 1 rfl) ?_
  refine lv_iconst (v := 1) hx hb dL_law_597 (by decide) ?_
  refine lv_iadd hx hb dL_law_598 ?_
  refine lv_topi (fun x_2185 ex_2185 => ?_)
  obtain rfl : x_2185 = 1 := ex_2185.trans (by decide)
  refine va_sld hx hb hX hbl hbA hw.2.2 (k_in0 (by decide)) dL_law_599 ?_
  refine lv_topi (fun x_2186 ex_2186 => ?_)
  obtain rfl : x_2186 = 1 := (show x_2186 = xs 1 from ex_2186).trans hv
  refine k_V (wr := [(ou, .inl (γ.2.1 1, 1, .inr (.inl fo9_2183)))]) 1 gw_1656 gw_1657 gw_1658 gw_15 gw_1659 hd_X12_judged hC hw (c_X12_judged_1 γ l z z2 z10 z11 z12 z13 z14 z15 z16 z17 z18 z19 z22 z23 z24 z25 z26 z27 z28 z29 z30 z31 z32 z33 z36 z37 z38 z39 z40 z41 z42 z43 z44 z45 z46 z47 z48 z55 z56 z59 z60 z61 fa (fun _ => 0) (fun _ => 0) ha0 ha1 ha2 ha3 ha4) ⟨by decide, by decide⟩ ⟨by decide, by decide⟩ hl.1 rfl 0 rfl rfl rfl (Nat.le_of_ble_eq_true rfl) [0, 1, 2, 3, 4] [5] rfl rfl rfl rfl (by decide) dL_law_600 (fun r w1 H locs hq hw => ?_)
  obtain ⟨rfl, rfl⟩ := hq
  have hw : kW γ A [(ou, .inl (γ.2.1 1, 1, .inr (.inl fo9_2183))), (z, .inr (11, [.int 0, .int 0, .ref z2, .int 0, .int 0, .int 0, .int 0, .long 0, .int 0, .int 0, .ref z10, .ref z11, .ref z12, .ref z13, .ref z14, .ref z15, .ref z16, .ref z17, .ref z18, .ref z19, .int 0, .int 0, .ref z22, .ref z23, .ref z24, .ref z25, .ref z26, .ref z27, .ref z28, .ref z29, .ref z30, .ref z31, .ref z32, .ref z33, .int 0, .long 0, .ref z36, .ref z37, .ref z38, .ref z39, .ref z40, .ref z41, .ref z42, .ref z43, .ref z44, .ref z45, .ref z46, .ref z47, .ref z48, .int 0, .int 10, .int (-1), .int (-1), .int 0, .int 0, .ref z55, .ref z56, .int 0, .int 0, .ref z59, .ref z60, .ref z61, .int 0, .long 0]))] s H locs := hw
  refine W.eq (g2 := F0 m 603 ls [.int (-1)]) rfl ?_
  refine lv_istore (lv' := [(6, .int (-1)), (5, .int 0), (4, .int 0), (3, .ref ou), (2, .ref z), (1, .ref x), (0, .ref b)]) hx hb dL_law_603 hl (by decide) rfl (fun ls hl => ?_)
  refine lv_aload_n hx hb dL_law_605 rfl (lv_at hl 4 rfl) ?_
  refine k_V (wr := [(ou, .inl (γ.2.1 1, 1, .inr (.inl fo9_2183)))]) 0 gw_1385 gw_1386 gw_1387 gw_15 gw_1388 hd_X12_thrown hC hw (c_X12_thrown γ l z z2 z10 z11 z12 z13 z14 z15 z16 z17 z18 z19 z22 z23 z24 z25 z26 z27 z28 z29 z30 z31 z32 z33 z36 z37 z38 z39 z40 z41 z42 z43 z44 z45 z46 z47 z48 z55 z56 z59 z60 z61 0 0 0 0 0 0 0 0 0 0 0 0 0 10 (-1) (-1) 0 0 0 0 0 0 0) ⟨by decide, by decide⟩ ⟨by decide, by decide⟩ hl.1 rfl 1 rfl rfl rfl (Nat.le_of_ble_eq_true rfl) [1] [0] rfl rfl rfl rfl (by decide) dL_law_606 (fun r w1 H locs hq hw => ?_)
  obtain ⟨rfl, rfl⟩ := hq
  have hw : kW γ A [(ou, .inl (γ.2.1 1, 1, .inr (.inl fo9_2183)))] s H locs := hw
  refine W.eq (g2 := F0 m 609 ls [.int 0]) rfl ?_
  refine lv_iload hx hb dL_law_609 (lv_at hl 1 rfl) ?_
  refine lv_icmp_eq (tgt := 616) hx hb dL_law_611 (by decide) (fun _ => ?_) (fun h => absurd (by decide) h)
  refine lv_iload hx hb dL_law_616 (lv_at hl 1 rfl) ?_
  refine lv_if_ne (tgt := 633) hx hb dL_law_618 (by decide) (fun h => absurd rfl h) (fun _ => ?_)
  refine lv_aload_n hx hb dL_law_621 rfl (lv_at hl 3 rfl) ?_
  refine lv_iconst (v := 0) hx hb dL_law_622 (by decide) ?_
  refine k_lald hC hw 0 rfl (k_in0 (by decide)) dL_law_623 ?_
  refine lv_topl (fun x_2187 ex_2187 => ?_)
  obtain rfl : x_2187 = ((-1) : Int32).toInt64 := (show x_2187 = fo9_2183 0 from ex_2187).trans g_2184
  refine lv_iload hx hb dL_law_624 (lv_at hl 0 rfl) ?_
  refine lv_i2l hx hb dL_law_626 rfl ?_
  refine lv_topl (fun x_2188 ex_2188 => ?_)
  obtain rfl : x_2188 = ((-1) : Int32).toInt64 := ex_2188
  refine W.lcmp hx hb dL_law_627 ?_
  refine lv_topi (fun x_2189 ex_2189 => ?_)
  obtain rfl : x_2189 = 0 := ex_2189.trans (k_cmp_self _)
  refine lv_if_eq (tgt := 633) hx hb dL_law_628 (by decide) (fun _ => ?_) (fun h => absurd (by decide) h)
  refine lv_goto (tgt := 1370) hx hb dL_law_633 (by decide) ?_
  exact law_end hC hr hlocks hX hbl hbA hAs hl9 _ _ (kW.sub hw [] rfl rfl) (by decide) (by decide) _ (lv_sub hl [2, 6] rfl)

set_option maxHeartbeats 4000000 in
set_option maxRecDepth 100000 in
theorem lc_10_2 {γ : kΓ} {l : Launch} {p : Program} {e : Env} {s : State} {m : MethodId} {below : List Frame} {meth : Method} {c : Code} {A : Nat → Prop} {b : Nat} {xs : Nat → Int32} (hC : kC γ p s m [Value.ref b].toArray c code 7 RL A) (hr : meth.sig.returnType = ret) (hlocks : meth.locks = false) (hX : va_X b 7 xs s s.heap) (hbl : b < s.heap.size) (hbA : ¬ A b) (hAs : ∀ q, A q → s.heap.size ≤ q) (hl9 : l.stackTraces = false) (x : Nat) (x0 : Nat) (x1 : Nat) (x2 : Nat) (x3 : Nat) (x4 : Nat) (x5 : Nat) (x6 : Nat) (x7 : Nat) (x8 : Nat) (x9 : Nat) (x10 : Nat) (z : Nat) (z2 : Nat) (z10 : Nat) (z11 : Nat) (z12 : Nat) (z13 : Nat) (z14 : Nat) (z15 : Nat) (z16 : Nat) (z17 : Nat) (z18 : Nat) (z19 : Nat) (z22 : Nat) (z23 : Nat) (z24 : Nat) (z25 : Nat) (z26 : Nat) (z27 : Nat) (z28 : Nat) (z29 : Nat) (z30 : Nat) (z31 : Nat) (z32 : Nat) (z33 : Nat) (z36 : Nat) (z37 : Nat) (z38 : Nat) (z39 : Nat) (z40 : Nat) (z41 : Nat) (z42 : Nat) (z43 : Nat) (z44 : Nat) (z45 : Nat) (z46 : Nat) (z47 : Nat) (z48 : Nat) (z55 : Nat) (z56 : Nat) (z59 : Nat) (z60 : Nat) (z61 : Nat) (x90 : Nat) (x91 : Nat) (x92 : Nat) (x93 : Nat) (x94 : Nat) (x95 : Nat) (x96 : Nat) (x97 : Nat) (x4s : Nat) (x4s_l : Nat) (x4s_c : Nat) (x4s_g : Nat) (x4s_r : Nat) (x4s_k : Nat) (x4s_b : Nat) (fx4s_l : Nat → Int32) (fx4s_c : Nat → Int32) (fx4s_g : Nat → Int32) (fx4s_r : Nat → Int64) (fx4s_k : Nat → Int32) (fx4s_b : Nat → Int32) (x2s : Nat) (x2y : Nat) (x2q : Nat) (fa : Nat → Int32) (ou : Nat) (ha0 : fa 0 = 0) (ha1 : fa 1 = 0) (ha2 : fa 2 = 10) (ha3 : fa 3 = 10) (ha4 : fa 4 = 3) (hv : xs 1 = 2) (H : Heap) (locs : List Loc) (hw : kW γ A [(x, .inr (10, [.ref x0, .ref x1, .ref x2, .ref x3, .ref x4, .ref x5, .ref x6, .ref x7, .ref x8, .ref x9, .ref x10])), (z, .inr (11, [.int 0, .int 0, .ref z2, .int 0, .int 0, .int 0, .int 0, .long 0, .int 0, .int 0, .ref z10, .ref z11, .ref z12, .ref z13, .ref z14, .ref z15, .ref z16, .ref z17, .ref z18, .ref z19, .int 0, .int 0, .ref z22, .ref z23, .ref z24, .ref z25, .ref z26, .ref z27, .ref z28, .ref z29, .ref z30, .ref z31, .ref z32, .ref z33, .int 0, .long 0, .ref z36, .ref z37, .ref z38, .ref z39, .ref z40, .ref z41, .ref z42, .ref z43, .ref z44, .ref z45, .ref z46, .ref z47, .ref z48, .int 0, .int 10, .int 0, .int 0, .int 0, .int 0, .ref z55, .ref z56, .int 0, .int 0, .ref z59, .ref z60, .ref z61, .int 0, .long 0])), (x9, .inr (0, [.ref x90, .ref x91, .ref x92, .ref x93, .ref x94, .ref x95, .ref x96, .ref x97, .int 0, .int 0, .int 10, .int 10, .int 3, .int 0, .int 0, .int 0, .int 0, .int 0, .int 0])), (x4, .inr (2, [.ref x4s, .int 0, .int 0, .int 0, .long 0])), (x4s, .inr (7, [.ref x4s_l, .ref x4s_c, .ref x4s_g, .ref x4s_r, .ref x4s_k, .ref x4s_b, .int 0, .int 0, .int 0])), (x4s_l, .inl (γ.2.1 0, 5, .inl fx4s_l)), (x4s_c, .inl (γ.2.1 0, 5, .inl fx4s_c)), (x4s_g, .inl (γ.2.1 0, 5, .inl fx4s_g)), (x4s_r, .inl (γ.2.1 1, 5, .inr (.inl fx4s_r))), (x4s_k, .inl (γ.2.1 0, 40, .inl fx4s_k)), (x4s_b, .inl (γ.2.1 0, 8, .inl fx4s_b)), (x2, .inr (3, [.ref x2s, .ref x2y, .ref x2q, .int 0, .int 0, .int 0])), (z10, .inl (γ.2.1 0, 10, .inl fa)), (z43, .inl (γ.2.1 0, 133, .inl (fun _ => 0))), (z44, .inl (γ.2.1 0, 133, .inl (fun _ => 0))), (z36, .inl (γ.2.1 0, 6, .inl (fun _ => 0))), (ou, .inl (γ.2.1 1, 1, .inr (.inl (fun _ => 0))))] s H locs) (ls : Array Slot) (hl : lv_has ls 7 [(4, .int 0), (3, .ref ou), (2, .ref z), (1, .ref x), (0, .ref b)]) : W p l e room_1 s m [Value.ref b].toArray below meth c H locs 251 13922 (lw_Z below #[Value.ref b] s) (F0 m 580 ls []) := by
  have hx := hC.1
  have hb := hC.2.1
  refine lv_aload_n hx hb dL_law_580 rfl (lv_at hl 3 rfl) ?_
  refine lv_aload_n hx hb dL_law_581 rfl (lv_at hl 4 rfl) ?_
  refine lv_iload hx hb dL_law_582 (lv_at hl 0 rfl) ?_
  refine lv_iconst (v := 1) hx hb dL_law_584 (by decide) ?_
  refine lv_iadd hx hb dL_law_585 ?_
  refine lv_topi (fun x_2190 ex_2190 => ?_)
  obtain rfl : x_2190 = 1 := ex_2190.trans (by decide)
  refine va_sld hx hb hX hbl hbA hw.2.2 (k_in0 (by decide)) dL_law_586 ?_
  refine lv_topi (fun x_2191 ex_2191 => ?_)
  obtain rfl : x_2191 = 2 := (show x_2191 = xs 1 from ex_2191).trans hv
  refine lv_aload_n hx hb dL_law_587 rfl (lv_at hl 1 rfl) ?_
  refine k_SW (wr := [(z, .inr (11, [.int 0, .int 0, .ref z2, .int 0, .int 0, .int 0, .int 0, .long 0, .int 0, .int 0, .ref z10, .ref z11, .ref z12, .ref z13, .ref z14, .ref z15, .ref z16, .ref z17, .ref z18, .ref z19, .int 0, .int 0, .ref z22, .ref z23, .ref z24, .ref z25, .ref z26, .ref z27, .ref z28, .ref z29, .ref z30, .ref z31, .ref z32, .ref z33, .int 0, .long 0, .ref z36, .ref z37, .ref z38, .ref z39, .ref z40, .ref z41, .ref z42, .ref z43, .ref z44, .ref z45, .ref z46, .ref z47, .ref z48, .int 0, .int 10, .int 0, .int 0, .int 0, .int 0, .ref z55, .ref z56, .int 0, .int 0, .ref z59, .ref z60, .ref z61, .int 0, .long 0])), (z10, .inl (γ.2.1 0, 10, .inl fa)), (z43, .inl (γ.2.1 0, 133, .inl (fun _ => 0))), (z44, .inl (γ.2.1 0, 133, .inl (fun _ => 0))), (z36, .inl (γ.2.1 0, 6, .inl (fun _ => 0)))]) 3 gw_1021 gw_1022 gw_0 gw_1023 hd_L_judged hC hw (c_L_judged_2 γ l hl9 x x0 x1 x2 x3 x4 x5 x6 x7 x8 x9 x10 x90 x91 x92 x93 x94 x95 x96 x97 x4s x4s_l x4s_c x4s_g x4s_r x4s_k x4s_b fx4s_l fx4s_c fx4s_g fx4s_r fx4s_k fx4s_b x2s x2y x2q ou (fun _ => 0)) ⟨by decide, by decide⟩ ⟨by decide, by decide⟩ hl.1 rfl rfl (Nat.le_of_ble_eq_true rfl) [0, 2, 3, 4, 5, 6, 7, 8, 9, 10, 11, 16] [1, 12, 13, 14, 15] rfl rfl rfl rfl (by decide) dL_law_588 (fun r w1 H locs hq hw => ?_)
  obtain ⟨fo9_2192, rfl, rfl, g_2193⟩ := hq
  have hw : kW γ A [(z, .inr (11, [.int 0, .int 0, .ref z2, .int 0, .int 0, .int 0, .int 0, .long 0, .int 0, .int 0, .ref z10, .ref z11, .ref z12, .ref z13, .ref z14, .ref z15, .ref z16, .ref z17, .ref z18, .ref z19, .int 0, .int 0, .ref z22, .ref z23, .ref z24, .ref z25, .ref z26, .ref z27, .ref z28, .ref z29, .ref z30, .ref z31, .ref z32, .ref z33, .int 0, .long 0, .ref z36, .ref z37, .ref z38, .ref z39, .ref z40, .ref z41, .ref z42, .ref z43, .ref z44, .ref z45, .ref z46, .ref z47, .ref z48, .int 0, .int 10, .int 0, .int 0, .int 0, .int 0, .ref z55, .ref z56, .int 0, .int 0, .ref z59, .ref z60, .ref z61, .int 0, .long 0])), (z10, .inl (γ.2.1 0, 10, .inl fa)), (z43, .inl (γ.2.1 0, 133, .inl (fun _ => 0))), (z44, .inl (γ.2.1 0, 133, .inl (fun _ => 0))), (z36, .inl (γ.2.1 0, 6, .inl (fun _ => 0))), (ou, .inl (γ.2.1 1, 1, .inr (.inl fo9_2192)))] s H locs := hw
  refine W.eq (g2 := F0 m 591 ls [.int 0]) rfl ?_
  refine lv_istore (lv' := [(5, .int 0), (4, .int 0), (3, .ref ou), (2, .ref z), (1, .ref x), (0, .ref b)]) hx hb dL_law_591 hl (by decide) rfl (fun ls hl => ?_)
  refine lv_aload_n hx hb dL_law_593 rfl (lv_at hl 3 rfl) ?_
  refine lv_aload_n hx hb dL_law_594 rfl (lv_at hl 5 rfl) ?_
  refine lv_iload hx hb dL_law_595 (lv_at hl 1 rfl) ?_
  refine lv_iconst (v := 1) hx hb dL_law_597 (by decide) ?_
  refine lv_iadd hx hb dL_law_598 ?_
  refine lv_topi (fun x_2194 ex_2194 => ?_)
  obtain rfl : x_2194 = 1 := ex_2194.trans (by decide)
  refine va_sld hx hb hX hbl hbA hw.2.2 (k_in0 (by decide)) dL_law_599 ?_
  refine lv_topi (fun x_2195 ex_2195 => ?_)
  obtain rfl : x_2195 = 2 := (show x_2195 = xs 1 from ex_2195).trans hv
  refine k_V (wr := [(ou, .inl (γ.2.1 1, 1, .inr (.inl fo9_2192)))]) 1 gw_1656 gw_1657 gw_1658 gw_15 gw_1659 hd_X12_judged hC hw (c_X12_judged_2 γ l z z2 z10 z11 z12 z13 z14 z15 z16 z17 z18 z19 z22 z23 z24 z25 z26 z27 z28 z29 z30 z31 z32 z33 z36 z37 z38 z39 z40 z41 z42 z43 z44 z45 z46 z47 z48 z55 z56 z59 z60 z61 fa (fun _ => 0) (fun _ => 0) ha0 ha1 ha2 ha3 ha4) ⟨by decide, by decide⟩ ⟨by decide, by decide⟩ hl.1 rfl 0 rfl rfl rfl (Nat.le_of_ble_eq_true rfl) [0, 1, 2, 3, 4] [5] rfl rfl rfl rfl (by decide) dL_law_600 (fun r w1 H locs hq hw => ?_)
  obtain ⟨rfl, rfl⟩ := hq
  have hw : kW γ A [(ou, .inl (γ.2.1 1, 1, .inr (.inl fo9_2192))), (z, .inr (11, [.int 0, .int 0, .ref z2, .int 0, .int 0, .int 0, .int 0, .long 0, .int 0, .int 0, .ref z10, .ref z11, .ref z12, .ref z13, .ref z14, .ref z15, .ref z16, .ref z17, .ref z18, .ref z19, .int 0, .int 0, .ref z22, .ref z23, .ref z24, .ref z25, .ref z26, .ref z27, .ref z28, .ref z29, .ref z30, .ref z31, .ref z32, .ref z33, .int 0, .long 0, .ref z36, .ref z37, .ref z38, .ref z39, .ref z40, .ref z41, .ref z42, .ref z43, .ref z44, .ref z45, .ref z46, .ref z47, .ref z48, .int 0, .int 10, .int (-1), .int (-1), .int 0, .int 0, .ref z55, .ref z56, .int 0, .int 0, .ref z59, .ref z60, .ref z61, .int 0, .long 0]))] s H locs := hw
  refine W.eq (g2 := F0 m 603 ls [.int 0]) rfl ?_
  refine lv_istore (lv' := [(6, .int 0), (5, .int 0), (4, .int 0), (3, .ref ou), (2, .ref z), (1, .ref x), (0, .ref b)]) hx hb dL_law_603 hl (by decide) rfl (fun ls hl => ?_)
  refine lv_aload_n hx hb dL_law_605 rfl (lv_at hl 4 rfl) ?_
  refine k_V (wr := [(ou, .inl (γ.2.1 1, 1, .inr (.inl fo9_2192)))]) 0 gw_1385 gw_1386 gw_1387 gw_15 gw_1388 hd_X12_thrown hC hw (c_X12_thrown γ l z z2 z10 z11 z12 z13 z14 z15 z16 z17 z18 z19 z22 z23 z24 z25 z26 z27 z28 z29 z30 z31 z32 z33 z36 z37 z38 z39 z40 z41 z42 z43 z44 z45 z46 z47 z48 z55 z56 z59 z60 z61 0 0 0 0 0 0 0 0 0 0 0 0 0 10 (-1) (-1) 0 0 0 0 0 0 0) ⟨by decide, by decide⟩ ⟨by decide, by decide⟩ hl.1 rfl 1 rfl rfl rfl (Nat.le_of_ble_eq_true rfl) [1] [0] rfl rfl rfl rfl (by decide) dL_law_606 (fun r w1 H locs hq hw => ?_)
  obtain ⟨rfl, rfl⟩ := hq
  have hw : kW γ A [(ou, .inl (γ.2.1 1, 1, .inr (.inl fo9_2192)))] s H locs := hw
  refine W.eq (g2 := F0 m 609 ls [.int 0]) rfl ?_
  refine lv_iload hx hb dL_law_609 (lv_at hl 1 rfl) ?_
  refine lv_icmp_eq (tgt := 616) hx hb dL_law_611 (by decide) (fun _ => ?_) (fun h => absurd (by decide) h)
  refine lv_iload hx hb dL_law_616 (lv_at hl 1 rfl) ?_
  refine lv_if_ne (tgt := 633) hx hb dL_law_618 (by decide) (fun h => absurd rfl h) (fun _ => ?_)
  refine lv_aload_n hx hb dL_law_621 rfl (lv_at hl 3 rfl) ?_
  refine lv_iconst (v := 0) hx hb dL_law_622 (by decide) ?_
  refine k_lald hC hw 0 rfl (k_in0 (by decide)) dL_law_623 ?_
  refine lv_topl (fun x_2196 ex_2196 => ?_)
  obtain rfl : x_2196 = (0 : Int32).toInt64 := (show x_2196 = fo9_2192 0 from ex_2196).trans g_2193
  refine lv_iload hx hb dL_law_624 (lv_at hl 0 rfl) ?_
  refine lv_i2l hx hb dL_law_626 rfl ?_
  refine lv_topl (fun x_2197 ex_2197 => ?_)
  obtain rfl : x_2197 = (0 : Int32).toInt64 := ex_2197
  refine W.lcmp hx hb dL_law_627 ?_
  refine lv_topi (fun x_2198 ex_2198 => ?_)
  obtain rfl : x_2198 = 0 := ex_2198.trans (k_cmp_self _)
  refine lv_if_eq (tgt := 633) hx hb dL_law_628 (by decide) (fun _ => ?_) (fun h => absurd (by decide) h)
  refine lv_goto (tgt := 1370) hx hb dL_law_633 (by decide) ?_
  exact law_end hC hr hlocks hX hbl hbA hAs hl9 _ _ (kW.sub hw [] rfl rfl) (by decide) (by decide) _ (lv_sub hl [2, 6] rfl)

set_option maxHeartbeats 4000000 in
set_option maxRecDepth 100000 in
theorem lc_10_l {γ : kΓ} {l : Launch} {p : Program} {e : Env} {s : State} {m : MethodId} {below : List Frame} {meth : Method} {c : Code} {A : Nat → Prop} {b : Nat} {xs : Nat → Int32} (hC : kC γ p s m [Value.ref b].toArray c code 7 RL A) (hr : meth.sig.returnType = ret) (hlocks : meth.locks = false) (hX : va_X b 7 xs s s.heap) (hbl : b < s.heap.size) (hbA : ¬ A b) (hAs : ∀ q, A q → s.heap.size ≤ q) (hl9 : l.stackTraces = false) (x : Nat) (x0 : Nat) (x1 : Nat) (x2 : Nat) (x3 : Nat) (x4 : Nat) (x5 : Nat) (x6 : Nat) (x7 : Nat) (x8 : Nat) (x9 : Nat) (x10 : Nat) (z : Nat) (z2 : Nat) (z10 : Nat) (z11 : Nat) (z12 : Nat) (z13 : Nat) (z14 : Nat) (z15 : Nat) (z16 : Nat) (z17 : Nat) (z18 : Nat) (z19 : Nat) (z22 : Nat) (z23 : Nat) (z24 : Nat) (z25 : Nat) (z26 : Nat) (z27 : Nat) (z28 : Nat) (z29 : Nat) (z30 : Nat) (z31 : Nat) (z32 : Nat) (z33 : Nat) (z36 : Nat) (z37 : Nat) (z38 : Nat) (z39 : Nat) (z40 : Nat) (z41 : Nat) (z42 : Nat) (z43 : Nat) (z44 : Nat) (z45 : Nat) (z46 : Nat) (z47 : Nat) (z48 : Nat) (z55 : Nat) (z56 : Nat) (z59 : Nat) (z60 : Nat) (z61 : Nat) (ou : Nat) (h1 : xs 1 < 0) (H : Heap) (locs : List Loc) (hw : kW γ A [(x, .inr (10, [.ref x0, .ref x1, .ref x2, .ref x3, .ref x4, .ref x5, .ref x6, .ref x7, .ref x8, .ref x9, .ref x10])), (z, .inr (11, [.int 0, .int 0, .ref z2, .int 0, .int 0, .int 0, .int 0, .long 0, .int 0, .int 0, .ref z10, .ref z11, .ref z12, .ref z13, .ref z14, .ref z15, .ref z16, .ref z17, .ref z18, .ref z19, .int 0, .int 0, .ref z22, .ref z23, .ref z24, .ref z25, .ref z26, .ref z27, .ref z28, .ref z29, .ref z30, .ref z31, .ref z32, .ref z33, .int 0, .long 0, .ref z36, .ref z37, .ref z38, .ref z39, .ref z40, .ref z41, .ref z42, .ref z43, .ref z44, .ref z45, .ref z46, .ref z47, .ref z48, .int 0, .int 10, .int 0, .int 0, .int 0, .int 0, .ref z55, .ref z56, .int 0, .int 0, .ref z59, .ref z60, .ref z61, .int 0, .long 0])), (ou, .inl (γ.2.1 1, 1, .inr (.inl (fun _ => 0))))] s H locs) (ls : Array Slot) (hl : lv_has ls 7 [(4, .int 0), (3, .ref ou), (2, .ref z), (1, .ref x), (0, .ref b)]) : W p l e room_1 s m [Value.ref b].toArray below meth c H locs 251 13922 (lw_Z below #[Value.ref b] s) (F0 m 580 ls []) := by
  have hx := hC.1
  have hb := hC.2.1
  refine lv_aload_n hx hb dL_law_580 rfl (lv_at hl 3 rfl) ?_
  refine lv_aload_n hx hb dL_law_581 rfl (lv_at hl 4 rfl) ?_
  refine lv_iload hx hb dL_law_582 (lv_at hl 0 rfl) ?_
  refine lv_iconst (v := 1) hx hb dL_law_584 (by decide) ?_
  refine lv_iadd hx hb dL_law_585 ?_
  refine lv_topi (fun x_2199 ex_2199 => ?_)
  obtain rfl : x_2199 = 1 := ex_2199.trans (by decide)
  refine va_sld hx hb hX hbl hbA hw.2.2 (k_in0 (by decide)) dL_law_586 ?_
  refine lv_topi (fun x_2200 ex_2200 => ?_)
  obtain rfl : x_2200 = xs 1 := ex_2200
  refine lv_aload_n hx hb dL_law_587 rfl (lv_at hl 1 rfl) ?_
  refine k_SW (wr := [(z, .inr (11, [.int 0, .int 0, .ref z2, .int 0, .int 0, .int 0, .int 0, .long 0, .int 0, .int 0, .ref z10, .ref z11, .ref z12, .ref z13, .ref z14, .ref z15, .ref z16, .ref z17, .ref z18, .ref z19, .int 0, .int 0, .ref z22, .ref z23, .ref z24, .ref z25, .ref z26, .ref z27, .ref z28, .ref z29, .ref z30, .ref z31, .ref z32, .ref z33, .int 0, .long 0, .ref z36, .ref z37, .ref z38, .ref z39, .ref z40, .ref z41, .ref z42, .ref z43, .ref z44, .ref z45, .ref z46, .ref z47, .ref z48, .int 0, .int 10, .int 0, .int 0, .int 0, .int 0, .ref z55, .ref z56, .int 0, .int 0, .ref z59, .ref z60, .ref z61, .int 0, .long 0]))]) 3 gw_1021 gw_1022 gw_0 gw_1023 hd_L_judged hC hw (c_L_judged_l γ l hl9 x x0 x1 x2 x3 x4 x5 x6 x7 x8 x9 x10 (xs 1) ou (fun _ => 0) h1) ⟨by decide, by decide⟩ ⟨by decide, by decide⟩ hl.1 rfl rfl (Nat.le_of_ble_eq_true rfl) [0, 2] [1] rfl rfl rfl rfl (by decide) dL_law_588 (fun r w1 H locs hq hw => ?_)
  obtain ⟨rfl, rfl⟩ := hq
  have hw : kW γ A [(z, .inr (11, [.int 0, .int 0, .ref z2, .int 0, .int 0, .int 0, .int 0, .long 0, .int 0, .int 0, .ref z10, .ref z11, .ref z12, .ref z13, .ref z14, .ref z15, .ref z16, .ref z17, .ref z18, .ref z19, .int 0, .int 0, .ref z22, .ref z23, .ref z24, .ref z25, .ref z26, .ref z27, .ref z28, .ref z29, .ref z30, .ref z31, .ref z32, .ref z33, .int 0, .long 0, .ref z36, .ref z37, .ref z38, .ref z39, .ref z40, .ref z41, .ref z42, .ref z43, .ref z44, .ref z45, .ref z46, .ref z47, .ref z48, .int 0, .int 10, .int 0, .int 0, .int 0, .int 0, .ref z55, .ref z56, .int 0, .int 0, .ref z59, .ref z60, .ref z61, .int 0, .long 0])), (ou, .inl (γ.2.1 1, 1, .inr (.inl (fun _ => 0))))] s H locs := hw
  refine W.eq (g2 := F0 m 591 ls [.int 1]) rfl ?_
  refine W.widen (k := 252) (n := 13928) (by decide) (by decide) ?_
  refine lv_istore (lv' := [(5, .int 1), (4, .int 0), (3, .ref ou), (2, .ref z), (1, .ref x), (0, .ref b)]) hx hb dL_law_591 hl (by decide) rfl (fun ls hl => ?_)
  refine lv_aload_n hx hb dL_law_593 rfl (lv_at hl 3 rfl) ?_
  refine lv_aload_n hx hb dL_law_594 rfl (lv_at hl 5 rfl) ?_
  refine lv_iload hx hb dL_law_595 (lv_at hl 1 rfl) ?_
  refine lv_iconst (v := 1) hx hb dL_law_597 (by decide) ?_
  refine lv_iadd hx hb dL_law_598 ?_
  refine lv_topi (fun x_2201 ex_2201 => ?_)
  obtain rfl : x_2201 = 1 := ex_2201.trans (by decide)
  refine va_sld hx hb hX hbl hbA hw.2.2 (k_in0 (by decide)) dL_law_599 ?_
  refine lv_topi (fun x_2202 ex_2202 => ?_)
  obtain rfl : x_2202 = xs 1 := ex_2202
  refine k_V (wr := [(ou, .inl (γ.2.1 1, 1, .inr (.inl (fun _ => 0))))]) 1 gw_1656 gw_1657 gw_1658 gw_15 gw_1659 hd_X12_judged hC hw (c_X12_judged_l γ l z z2 z10 z11 z12 z13 z14 z15 z16 z17 z18 z19 z22 z23 z24 z25 z26 z27 z28 z29 z30 z31 z32 z33 z36 z37 z38 z39 z40 z41 z42 z43 z44 z45 z46 z47 z48 z55 z56 z59 z60 z61 (xs 1) h1) ⟨by decide, by decide⟩ ⟨by decide, by decide⟩ hl.1 rfl 0 rfl rfl rfl (Nat.le_of_ble_eq_true rfl) [0] [1] rfl rfl rfl rfl (by decide) dL_law_600 (fun r w1 H locs hq hw => ?_)
  obtain ⟨rfl, rfl⟩ := hq
  have hw : kW γ A [(ou, .inl (γ.2.1 1, 1, .inr (.inl (fun _ => 0)))), (z, .inr (11, [.int 1, .int 0, .ref z2, .int 0, .int 0, .int 0, .int 0, .long 0, .int 0, .int 0, .ref z10, .ref z11, .ref z12, .ref z13, .ref z14, .ref z15, .ref z16, .ref z17, .ref z18, .ref z19, .int 0, .int 0, .ref z22, .ref z23, .ref z24, .ref z25, .ref z26, .ref z27, .ref z28, .ref z29, .ref z30, .ref z31, .ref z32, .ref z33, .int 0, .long 0, .ref z36, .ref z37, .ref z38, .ref z39, .ref z40, .ref z41, .ref z42, .ref z43, .ref z44, .ref z45, .ref z46, .ref z47, .ref z48, .int 0, .int 10, .int 0, .int 0, .int 0, .int 0, .ref z55, .ref z56, .int 0, .int 0, .ref z59, .ref z60, .ref z61, .int 0, .long 0]))] s H locs := hw
  refine W.eq (g2 := F0 m 603 ls [.int 0]) rfl ?_
  refine lv_istore (lv' := [(6, .int 0), (5, .int 1), (4, .int 0), (3, .ref ou), (2, .ref z), (1, .ref x), (0, .ref b)]) hx hb dL_law_603 hl (by decide) rfl (fun ls hl => ?_)
  refine lv_aload_n hx hb dL_law_605 rfl (lv_at hl 4 rfl) ?_
  refine k_V (wr := [(ou, .inl (γ.2.1 1, 1, .inr (.inl (fun _ => 0))))]) 0 gw_1385 gw_1386 gw_1387 gw_15 gw_1388 hd_X12_thrown hC hw (c_X12_thrown γ l z z2 z10 z11 z12 z13 z14 z15 z16 z17 z18 z19 z22 z23 z24 z25 z26 z27 z28 z29 z30 z31 z32 z33 z36 z37 z38 z39 z40 z41 z42 z43 z44 z45 z46 z47 z48 z55 z56 z59 z60 z61 0 0 0 0 0 0 0 0 0 0 0 0 0 10 0 0 0 0 0 0 0 0 1) ⟨by decide, by decide⟩ ⟨by decide, by decide⟩ hl.1 rfl 1 rfl rfl rfl (Nat.le_of_ble_eq_true rfl) [1] [0] rfl rfl rfl rfl (by decide) dL_law_606 (fun r w1 H locs hq hw => ?_)
  obtain ⟨rfl, rfl⟩ := hq
  have hw : kW γ A [(ou, .inl (γ.2.1 1, 1, .inr (.inl (fun _ => 0))))] s H locs := hw
  refine W.eq (g2 := F0 m 609 ls [.int 1]) rfl ?_
  refine lv_iload hx hb dL_law_609 (lv_at hl 1 rfl) ?_
  refine lv_icmp_eq (tgt := 616) hx hb dL_law_611 (by decide) (fun _ => ?_) (fun h => absurd (by decide) h)
  refine lv_iload hx hb dL_law_616 (lv_at hl 1 rfl) ?_
  refine lv_if_ne (tgt := 633) hx hb dL_law_618 (by decide) (fun _ => ?_) (fun h => absurd h (by decide))
  refine lv_goto (tgt := 1370) hx hb dL_law_633 (by decide) ?_
  exact law_end hC hr hlocks hX hbl hbA hAs hl9 _ _ (kW.sub hw [] rfl rfl) (by decide) (by decide) _ (lv_sub hl [2, 6] rfl)

set_option maxHeartbeats 4000000 in
set_option maxRecDepth 100000 in
theorem lc_10_h {γ : kΓ} {l : Launch} {p : Program} {e : Env} {s : State} {m : MethodId} {below : List Frame} {meth : Method} {c : Code} {A : Nat → Prop} {b : Nat} {xs : Nat → Int32} (hC : kC γ p s m [Value.ref b].toArray c code 7 RL A) (hr : meth.sig.returnType = ret) (hlocks : meth.locks = false) (hX : va_X b 7 xs s s.heap) (hbl : b < s.heap.size) (hbA : ¬ A b) (hAs : ∀ q, A q → s.heap.size ≤ q) (hl9 : l.stackTraces = false) (x : Nat) (x0 : Nat) (x1 : Nat) (x2 : Nat) (x3 : Nat) (x4 : Nat) (x5 : Nat) (x6 : Nat) (x7 : Nat) (x8 : Nat) (x9 : Nat) (x10 : Nat) (z : Nat) (z2 : Nat) (z10 : Nat) (z11 : Nat) (z12 : Nat) (z13 : Nat) (z14 : Nat) (z15 : Nat) (z16 : Nat) (z17 : Nat) (z18 : Nat) (z19 : Nat) (z22 : Nat) (z23 : Nat) (z24 : Nat) (z25 : Nat) (z26 : Nat) (z27 : Nat) (z28 : Nat) (z29 : Nat) (z30 : Nat) (z31 : Nat) (z32 : Nat) (z33 : Nat) (z36 : Nat) (z37 : Nat) (z38 : Nat) (z39 : Nat) (z40 : Nat) (z41 : Nat) (z42 : Nat) (z43 : Nat) (z44 : Nat) (z45 : Nat) (z46 : Nat) (z47 : Nat) (z48 : Nat) (z55 : Nat) (z56 : Nat) (z59 : Nat) (z60 : Nat) (z61 : Nat) (ou : Nat) (h1 : ¬ xs 1 < 0) (h2 : 2 < xs 1) (H : Heap) (locs : List Loc) (hw : kW γ A [(x, .inr (10, [.ref x0, .ref x1, .ref x2, .ref x3, .ref x4, .ref x5, .ref x6, .ref x7, .ref x8, .ref x9, .ref x10])), (z, .inr (11, [.int 0, .int 0, .ref z2, .int 0, .int 0, .int 0, .int 0, .long 0, .int 0, .int 0, .ref z10, .ref z11, .ref z12, .ref z13, .ref z14, .ref z15, .ref z16, .ref z17, .ref z18, .ref z19, .int 0, .int 0, .ref z22, .ref z23, .ref z24, .ref z25, .ref z26, .ref z27, .ref z28, .ref z29, .ref z30, .ref z31, .ref z32, .ref z33, .int 0, .long 0, .ref z36, .ref z37, .ref z38, .ref z39, .ref z40, .ref z41, .ref z42, .ref z43, .ref z44, .ref z45, .ref z46, .ref z47, .ref z48, .int 0, .int 10, .int 0, .int 0, .int 0, .int 0, .ref z55, .ref z56, .int 0, .int 0, .ref z59, .ref z60, .ref z61, .int 0, .long 0])), (ou, .inl (γ.2.1 1, 1, .inr (.inl (fun _ => 0))))] s H locs) (ls : Array Slot) (hl : lv_has ls 7 [(4, .int 0), (3, .ref ou), (2, .ref z), (1, .ref x), (0, .ref b)]) : W p l e room_1 s m [Value.ref b].toArray below meth c H locs 251 13922 (lw_Z below #[Value.ref b] s) (F0 m 580 ls []) := by
  have hx := hC.1
  have hb := hC.2.1
  refine lv_aload_n hx hb dL_law_580 rfl (lv_at hl 3 rfl) ?_
  refine lv_aload_n hx hb dL_law_581 rfl (lv_at hl 4 rfl) ?_
  refine lv_iload hx hb dL_law_582 (lv_at hl 0 rfl) ?_
  refine lv_iconst (v := 1) hx hb dL_law_584 (by decide) ?_
  refine lv_iadd hx hb dL_law_585 ?_
  refine lv_topi (fun x_2203 ex_2203 => ?_)
  obtain rfl : x_2203 = 1 := ex_2203.trans (by decide)
  refine va_sld hx hb hX hbl hbA hw.2.2 (k_in0 (by decide)) dL_law_586 ?_
  refine lv_topi (fun x_2204 ex_2204 => ?_)
  obtain rfl : x_2204 = xs 1 := ex_2204
  refine lv_aload_n hx hb dL_law_587 rfl (lv_at hl 1 rfl) ?_
  refine k_SW (wr := [(z, .inr (11, [.int 0, .int 0, .ref z2, .int 0, .int 0, .int 0, .int 0, .long 0, .int 0, .int 0, .ref z10, .ref z11, .ref z12, .ref z13, .ref z14, .ref z15, .ref z16, .ref z17, .ref z18, .ref z19, .int 0, .int 0, .ref z22, .ref z23, .ref z24, .ref z25, .ref z26, .ref z27, .ref z28, .ref z29, .ref z30, .ref z31, .ref z32, .ref z33, .int 0, .long 0, .ref z36, .ref z37, .ref z38, .ref z39, .ref z40, .ref z41, .ref z42, .ref z43, .ref z44, .ref z45, .ref z46, .ref z47, .ref z48, .int 0, .int 10, .int 0, .int 0, .int 0, .int 0, .ref z55, .ref z56, .int 0, .int 0, .ref z59, .ref z60, .ref z61, .int 0, .long 0]))]) 3 gw_1021 gw_1022 gw_0 gw_1023 hd_L_judged hC hw (c_L_judged_h γ l hl9 x x0 x1 x2 x3 x4 x5 x6 x7 x8 x9 x10 (xs 1) ou (fun _ => 0) h1 h2) ⟨by decide, by decide⟩ ⟨by decide, by decide⟩ hl.1 rfl rfl (Nat.le_of_ble_eq_true rfl) [0, 2] [1] rfl rfl rfl rfl (by decide) dL_law_588 (fun r w1 H locs hq hw => ?_)
  obtain ⟨rfl, rfl⟩ := hq
  have hw : kW γ A [(z, .inr (11, [.int 0, .int 0, .ref z2, .int 0, .int 0, .int 0, .int 0, .long 0, .int 0, .int 0, .ref z10, .ref z11, .ref z12, .ref z13, .ref z14, .ref z15, .ref z16, .ref z17, .ref z18, .ref z19, .int 0, .int 0, .ref z22, .ref z23, .ref z24, .ref z25, .ref z26, .ref z27, .ref z28, .ref z29, .ref z30, .ref z31, .ref z32, .ref z33, .int 0, .long 0, .ref z36, .ref z37, .ref z38, .ref z39, .ref z40, .ref z41, .ref z42, .ref z43, .ref z44, .ref z45, .ref z46, .ref z47, .ref z48, .int 0, .int 10, .int 0, .int 0, .int 0, .int 0, .ref z55, .ref z56, .int 0, .int 0, .ref z59, .ref z60, .ref z61, .int 0, .long 0])), (ou, .inl (γ.2.1 1, 1, .inr (.inl (fun _ => 0))))] s H locs := hw
  refine W.eq (g2 := F0 m 591 ls [.int 1]) rfl ?_
  refine W.widen (k := 252) (n := 13928) (by decide) (by decide) ?_
  refine lv_istore (lv' := [(5, .int 1), (4, .int 0), (3, .ref ou), (2, .ref z), (1, .ref x), (0, .ref b)]) hx hb dL_law_591 hl (by decide) rfl (fun ls hl => ?_)
  refine lv_aload_n hx hb dL_law_593 rfl (lv_at hl 3 rfl) ?_
  refine lv_aload_n hx hb dL_law_594 rfl (lv_at hl 5 rfl) ?_
  refine lv_iload hx hb dL_law_595 (lv_at hl 1 rfl) ?_
  refine lv_iconst (v := 1) hx hb dL_law_597 (by decide) ?_
  refine lv_iadd hx hb dL_law_598 ?_
  refine lv_topi (fun x_2205 ex_2205 => ?_)
  obtain rfl : x_2205 = 1 := ex_2205.trans (by decide)
  refine va_sld hx hb hX hbl hbA hw.2.2 (k_in0 (by decide)) dL_law_599 ?_
  refine lv_topi (fun x_2206 ex_2206 => ?_)
  obtain rfl : x_2206 = xs 1 := ex_2206
  refine k_V (wr := [(ou, .inl (γ.2.1 1, 1, .inr (.inl (fun _ => 0))))]) 1 gw_1656 gw_1657 gw_1658 gw_15 gw_1659 hd_X12_judged hC hw (c_X12_judged_h γ l z z2 z10 z11 z12 z13 z14 z15 z16 z17 z18 z19 z22 z23 z24 z25 z26 z27 z28 z29 z30 z31 z32 z33 z36 z37 z38 z39 z40 z41 z42 z43 z44 z45 z46 z47 z48 z55 z56 z59 z60 z61 (xs 1) h1 h2) ⟨by decide, by decide⟩ ⟨by decide, by decide⟩ hl.1 rfl 0 rfl rfl rfl (Nat.le_of_ble_eq_true rfl) [0] [1] rfl rfl rfl rfl (by decide) dL_law_600 (fun r w1 H locs hq hw => ?_)
  obtain ⟨rfl, rfl⟩ := hq
  have hw : kW γ A [(ou, .inl (γ.2.1 1, 1, .inr (.inl (fun _ => 0)))), (z, .inr (11, [.int 1, .int 0, .ref z2, .int 0, .int 0, .int 0, .int 0, .long 0, .int 0, .int 0, .ref z10, .ref z11, .ref z12, .ref z13, .ref z14, .ref z15, .ref z16, .ref z17, .ref z18, .ref z19, .int 0, .int 0, .ref z22, .ref z23, .ref z24, .ref z25, .ref z26, .ref z27, .ref z28, .ref z29, .ref z30, .ref z31, .ref z32, .ref z33, .int 0, .long 0, .ref z36, .ref z37, .ref z38, .ref z39, .ref z40, .ref z41, .ref z42, .ref z43, .ref z44, .ref z45, .ref z46, .ref z47, .ref z48, .int 0, .int 10, .int 0, .int 0, .int 0, .int 0, .ref z55, .ref z56, .int 0, .int 0, .ref z59, .ref z60, .ref z61, .int 0, .long 0]))] s H locs := hw
  refine W.eq (g2 := F0 m 603 ls [.int 0]) rfl ?_
  refine lv_istore (lv' := [(6, .int 0), (5, .int 1), (4, .int 0), (3, .ref ou), (2, .ref z), (1, .ref x), (0, .ref b)]) hx hb dL_law_603 hl (by decide) rfl (fun ls hl => ?_)
  refine lv_aload_n hx hb dL_law_605 rfl (lv_at hl 4 rfl) ?_
  refine k_V (wr := [(ou, .inl (γ.2.1 1, 1, .inr (.inl (fun _ => 0))))]) 0 gw_1385 gw_1386 gw_1387 gw_15 gw_1388 hd_X12_thrown hC hw (c_X12_thrown γ l z z2 z10 z11 z12 z13 z14 z15 z16 z17 z18 z19 z22 z23 z24 z25 z26 z27 z28 z29 z30 z31 z32 z33 z36 z37 z38 z39 z40 z41 z42 z43 z44 z45 z46 z47 z48 z55 z56 z59 z60 z61 0 0 0 0 0 0 0 0 0 0 0 0 0 10 0 0 0 0 0 0 0 0 1) ⟨by decide, by decide⟩ ⟨by decide, by decide⟩ hl.1 rfl 1 rfl rfl rfl (Nat.le_of_ble_eq_true rfl) [1] [0] rfl rfl rfl rfl (by decide) dL_law_606 (fun r w1 H locs hq hw => ?_)
  obtain ⟨rfl, rfl⟩ := hq
  have hw : kW γ A [(ou, .inl (γ.2.1 1, 1, .inr (.inl (fun _ => 0))))] s H locs := hw
  refine W.eq (g2 := F0 m 609 ls [.int 1]) rfl ?_
  refine lv_iload hx hb dL_law_609 (lv_at hl 1 rfl) ?_
  refine lv_icmp_eq (tgt := 616) hx hb dL_law_611 (by decide) (fun _ => ?_) (fun h => absurd (by decide) h)
  refine lv_iload hx hb dL_law_616 (lv_at hl 1 rfl) ?_
  refine lv_if_ne (tgt := 633) hx hb dL_law_618 (by decide) (fun _ => ?_) (fun h => absurd h (by decide))
  refine lv_goto (tgt := 1370) hx hb dL_law_633 (by decide) ?_
  exact law_end hC hr hlocks hX hbl hbA hAs hl9 _ _ (kW.sub hw [] rfl rfl) (by decide) (by decide) _ (lv_sub hl [2, 6] rfl)

set_option maxHeartbeats 4000000 in
set_option maxRecDepth 100000 in
theorem lc_11 {γ : kΓ} {l : Launch} {p : Program} {e : Env} {s : State} {m : MethodId} {below : List Frame} {meth : Method} {c : Code} {A : Nat → Prop} {b : Nat} {xs : Nat → Int32} (hC : kC γ p s m [Value.ref b].toArray c code 7 RL A) (hr : meth.sig.returnType = ret) (hlocks : meth.locks = false) (hX : va_X b 7 xs s s.heap) (hbl : b < s.heap.size) (hbA : ¬ A b) (hAs : ∀ q, A q → s.heap.size ≤ q) (hl9 : l.stackTraces = false) (x : Nat) (x0 : Nat) (x1 : Nat) (x2 : Nat) (x3 : Nat) (x4 : Nat) (x5 : Nat) (x6 : Nat) (x7 : Nat) (x8 : Nat) (x9 : Nat) (x10 : Nat) (z : Nat) (z2 : Nat) (z10 : Nat) (z11 : Nat) (z12 : Nat) (z13 : Nat) (z14 : Nat) (z15 : Nat) (z16 : Nat) (z17 : Nat) (z18 : Nat) (z19 : Nat) (z22 : Nat) (z23 : Nat) (z24 : Nat) (z25 : Nat) (z26 : Nat) (z27 : Nat) (z28 : Nat) (z29 : Nat) (z30 : Nat) (z31 : Nat) (z32 : Nat) (z33 : Nat) (z36 : Nat) (z37 : Nat) (z38 : Nat) (z39 : Nat) (z40 : Nat) (z41 : Nat) (z42 : Nat) (z43 : Nat) (z44 : Nat) (z45 : Nat) (z46 : Nat) (z47 : Nat) (z48 : Nat) (z55 : Nat) (z56 : Nat) (z59 : Nat) (z60 : Nat) (z61 : Nat) (x90 : Nat) (x91 : Nat) (x92 : Nat) (x93 : Nat) (x94 : Nat) (x95 : Nat) (x96 : Nat) (x97 : Nat) (fa : Nat → Int32) (ou : Nat) (ha0 : fa 0 = 0) (ha1 : fa 1 = 0) (ha2 : fa 2 = 10) (ha3 : fa 3 = 10) (ha4 : fa 4 = 3) (H : Heap) (locs : List Loc) (hw : kW γ A [(x, .inr (10, [.ref x0, .ref x1, .ref x2, .ref x3, .ref x4, .ref x5, .ref x6, .ref x7, .ref x8, .ref x9, .ref x10])), (z, .inr (11, [.int 0, .int 0, .ref z2, .int 0, .int 0, .int 0, .int 0, .long 0, .int 0, .int 0, .ref z10, .ref z11, .ref z12, .ref z13, .ref z14, .ref z15, .ref z16, .ref z17, .ref z18, .ref z19, .int 0, .int 0, .ref z22, .ref z23, .ref z24, .ref z25, .ref z26, .ref z27, .ref z28, .ref z29, .ref z30, .ref z31, .ref z32, .ref z33, .int 0, .long 0, .ref z36, .ref z37, .ref z38, .ref z39, .ref z40, .ref z41, .ref z42, .ref z43, .ref z44, .ref z45, .ref z46, .ref z47, .ref z48, .int 0, .int 10, .int 0, .int 0, .int 0, .int 0, .ref z55, .ref z56, .int 0, .int 0, .ref z59, .ref z60, .ref z61, .int 0, .long 0])), (x9, .inr (0, [.ref x90, .ref x91, .ref x92, .ref x93, .ref x94, .ref x95, .ref x96, .ref x97, .int 0, .int 0, .int 10, .int 10, .int 3, .int 0, .int 0, .int 0, .int 0, .int 0, .int 0])), (z10, .inl (γ.2.1 0, 10, .inl fa)), (ou, .inl (γ.2.1 1, 1, .inr (.inl (fun _ => 0))))] s H locs) (ls : Array Slot) (hl : lv_has ls 7 [(4, .int 0), (3, .ref ou), (2, .ref z), (1, .ref x), (0, .ref b)]) : W p l e room_1 s m [Value.ref b].toArray below meth c H locs 251 13922 (lw_Z below #[Value.ref b] s) (F0 m 636 ls []) := by
  have hx := hC.1
  have hb := hC.2.1
  refine lv_aload_n hx hb dL_law_636 rfl (lv_at hl 3 rfl) ?_
  refine lv_aload_n hx hb dL_law_637 rfl (lv_at hl 4 rfl) ?_
  refine lv_iload hx hb dL_law_638 (lv_at hl 0 rfl) ?_
  refine lv_iconst (v := 1) hx hb dL_law_640 (by decide) ?_
  refine lv_iadd hx hb dL_law_641 ?_
  refine lv_topi (fun x_2207 ex_2207 => ?_)
  obtain rfl : x_2207 = 1 := ex_2207.trans (by decide)
  refine va_sld hx hb hX hbl hbA hw.2.2 (k_in0 (by decide)) dL_law_642 ?_
  refine lv_topi (fun x_2208 ex_2208 => ?_)
  obtain rfl : x_2208 = xs 1 := ex_2208
  refine lv_aload_n hx hb dL_law_643 rfl (lv_at hl 4 rfl) ?_
  refine lv_iload hx hb dL_law_644 (lv_at hl 0 rfl) ?_
  refine lv_iconst (v := 2) hx hb dL_law_646 (by decide) ?_
  refine lv_iadd hx hb dL_law_647 ?_
  refine lv_topi (fun x_2209 ex_2209 => ?_)
  obtain rfl : x_2209 = 2 := ex_2209.trans (by decide)
  refine va_sld hx hb hX hbl hbA hw.2.2 (k_in0 (by decide)) dL_law_648 ?_
  refine lv_topi (fun x_2210 ex_2210 => ?_)
  obtain rfl : x_2210 = xs 2 := ex_2210
  refine lv_aload_n hx hb dL_law_649 rfl (lv_at hl 4 rfl) ?_
  refine lv_iload hx hb dL_law_650 (lv_at hl 0 rfl) ?_
  refine lv_iconst (v := 3) hx hb dL_law_652 (by decide) ?_
  refine lv_iadd hx hb dL_law_653 ?_
  refine lv_topi (fun x_2211 ex_2211 => ?_)
  obtain rfl : x_2211 = 3 := ex_2211.trans (by decide)
  refine va_sld hx hb hX hbl hbA hw.2.2 (k_in0 (by decide)) dL_law_654 ?_
  refine lv_topi (fun x_2212 ex_2212 => ?_)
  obtain rfl : x_2212 = xs 3 := ex_2212
  refine lv_aload_n hx hb dL_law_655 rfl (lv_at hl 1 rfl) ?_
  refine k_SW (wr := [(z, .inr (11, [.int 0, .int 0, .ref z2, .int 0, .int 0, .int 0, .int 0, .long 0, .int 0, .int 0, .ref z10, .ref z11, .ref z12, .ref z13, .ref z14, .ref z15, .ref z16, .ref z17, .ref z18, .ref z19, .int 0, .int 0, .ref z22, .ref z23, .ref z24, .ref z25, .ref z26, .ref z27, .ref z28, .ref z29, .ref z30, .ref z31, .ref z32, .ref z33, .int 0, .long 0, .ref z36, .ref z37, .ref z38, .ref z39, .ref z40, .ref z41, .ref z42, .ref z43, .ref z44, .ref z45, .ref z46, .ref z47, .ref z48, .int 0, .int 10, .int 0, .int 0, .int 0, .int 0, .ref z55, .ref z56, .int 0, .int 0, .ref z59, .ref z60, .ref z61, .int 0, .long 0])), (z10, .inl (γ.2.1 0, 10, .inl fa))]) 5 gw_1094 gw_1095 gw_0 gw_1096 hd_L_best hC hw (c_L_best γ l hl9 x x0 x1 x2 x3 x4 x5 x6 x7 x8 x9 x10 x90 x91 x92 x93 x94 x95 x96 x97 (xs 1) (xs 2) (xs 3) ou (fun _ => 0)) ⟨by decide, by decide⟩ ⟨by decide, by decide⟩ hl.1 rfl rfl (Nat.le_of_ble_eq_true rfl) [0, 2, 4] [1, 3] rfl rfl rfl rfl (by decide) dL_law_656 (fun r w1 H locs hq hw => ?_)
  obtain ⟨rfl, rfl⟩ := hq
  have hw : kW γ A [(z, .inr (11, [.int 0, .int 0, .ref z2, .int 0, .int 0, .int 0, .int 0, .long 0, .int 0, .int 0, .ref z10, .ref z11, .ref z12, .ref z13, .ref z14, .ref z15, .ref z16, .ref z17, .ref z18, .ref z19, .int 0, .int 0, .ref z22, .ref z23, .ref z24, .ref z25, .ref z26, .ref z27, .ref z28, .ref z29, .ref z30, .ref z31, .ref z32, .ref z33, .int 0, .long 0, .ref z36, .ref z37, .ref z38, .ref z39, .ref z40, .ref z41, .ref z42, .ref z43, .ref z44, .ref z45, .ref z46, .ref z47, .ref z48, .int 0, .int 10, .int 0, .int 0, .int 0, .int 0, .ref z55, .ref z56, .int 0, .int 0, .ref z59, .ref z60, .ref z61, .int 0, .long 0])), (z10, .inl (γ.2.1 0, 10, .inl fa)), (ou, .inl (γ.2.1 1, 1, .inr (.inl (fun _ => 0))))] s H locs := hw
  refine W.eq (g2 := F0 m 659 ls [.int 1]) rfl ?_
  refine W.widen (k := 252) (n := 13928) (by decide) (by decide) ?_
  refine lv_istore (lv' := [(5, .int 1), (4, .int 0), (3, .ref ou), (2, .ref z), (1, .ref x), (0, .ref b)]) hx hb dL_law_659 hl (by decide) rfl (fun ls hl => ?_)
  refine lv_aload_n hx hb dL_law_661 rfl (lv_at hl 3 rfl) ?_
  refine lv_aload_n hx hb dL_law_662 rfl (lv_at hl 5 rfl) ?_
  refine lv_iload hx hb dL_law_663 (lv_at hl 1 rfl) ?_
  refine lv_iconst (v := 1) hx hb dL_law_665 (by decide) ?_
  refine lv_iadd hx hb dL_law_666 ?_
  refine lv_topi (fun x_2213 ex_2213 => ?_)
  obtain rfl : x_2213 = 1 := ex_2213.trans (by decide)
  refine va_sld hx hb hX hbl hbA hw.2.2 (k_in0 (by decide)) dL_law_667 ?_
  refine lv_topi (fun x_2214 ex_2214 => ?_)
  obtain rfl : x_2214 = xs 1 := ex_2214
  refine lv_aload_n hx hb dL_law_668 rfl (lv_at hl 5 rfl) ?_
  refine lv_iload hx hb dL_law_669 (lv_at hl 1 rfl) ?_
  refine lv_iconst (v := 2) hx hb dL_law_671 (by decide) ?_
  refine lv_iadd hx hb dL_law_672 ?_
  refine lv_topi (fun x_2215 ex_2215 => ?_)
  obtain rfl : x_2215 = 2 := ex_2215.trans (by decide)
  refine va_sld hx hb hX hbl hbA hw.2.2 (k_in0 (by decide)) dL_law_673 ?_
  refine lv_topi (fun x_2216 ex_2216 => ?_)
  obtain rfl : x_2216 = xs 2 := ex_2216
  refine lv_aload_n hx hb dL_law_674 rfl (lv_at hl 5 rfl) ?_
  refine lv_iload hx hb dL_law_675 (lv_at hl 1 rfl) ?_
  refine lv_iconst (v := 3) hx hb dL_law_677 (by decide) ?_
  refine lv_iadd hx hb dL_law_678 ?_
  refine lv_topi (fun x_2217 ex_2217 => ?_)
  obtain rfl : x_2217 = 3 := ex_2217.trans (by decide)
  refine va_sld hx hb hX hbl hbA hw.2.2 (k_in0 (by decide)) dL_law_679 ?_
  refine lv_topi (fun x_2218 ex_2218 => ?_)
  obtain rfl : x_2218 = xs 3 := ex_2218
  refine k_V (wr := [(ou, .inl (γ.2.1 1, 1, .inr (.inl (fun _ => 0))))]) 3 gw_1676 gw_1677 gw_1678 gw_15 gw_1679 hd_X12_best hC hw (c_X12_best γ l z z2 z10 z11 z12 z13 z14 z15 z16 z17 z18 z19 z22 z23 z24 z25 z26 z27 z28 z29 z30 z31 z32 z33 z36 z37 z38 z39 z40 z41 z42 z43 z44 z45 z46 z47 z48 z55 z56 z59 z60 z61 fa (xs 1) (xs 2) (xs 3) ha0 ha1 ha2 ha3 ha4) ⟨by decide, by decide⟩ ⟨by decide, by decide⟩ hl.1 rfl 0 rfl rfl rfl (Nat.le_of_ble_eq_true rfl) [0, 1] [2] rfl rfl rfl rfl (by decide) dL_law_680 (fun r w1 H locs hq hw => ?_)
  obtain ⟨rfl, rfl⟩ := hq
  have hw : kW γ A [(ou, .inl (γ.2.1 1, 1, .inr (.inl (fun _ => 0)))), (z, .inr (11, [.int 1, .int 0, .ref z2, .int 0, .int 0, .int 0, .int 0, .long 0, .int 0, .int 0, .ref z10, .ref z11, .ref z12, .ref z13, .ref z14, .ref z15, .ref z16, .ref z17, .ref z18, .ref z19, .int 0, .int 0, .ref z22, .ref z23, .ref z24, .ref z25, .ref z26, .ref z27, .ref z28, .ref z29, .ref z30, .ref z31, .ref z32, .ref z33, .int 0, .long 0, .ref z36, .ref z37, .ref z38, .ref z39, .ref z40, .ref z41, .ref z42, .ref z43, .ref z44, .ref z45, .ref z46, .ref z47, .ref z48, .int 0, .int 10, .int 0, .int 0, .int 0, .int 0, .ref z55, .ref z56, .int 0, .int 0, .ref z59, .ref z60, .ref z61, .int 0, .long 0]))] s H locs := hw
  refine W.eq (g2 := F0 m 683 ls [.int 0]) rfl ?_
  refine lv_istore (lv' := [(6, .int 0), (5, .int 1), (4, .int 0), (3, .ref ou), (2, .ref z), (1, .ref x), (0, .ref b)]) hx hb dL_law_683 hl (by decide) rfl (fun ls hl => ?_)
  refine lv_aload_n hx hb dL_law_685 rfl (lv_at hl 4 rfl) ?_
  refine k_V (wr := [(ou, .inl (γ.2.1 1, 1, .inr (.inl (fun _ => 0))))]) 0 gw_1385 gw_1386 gw_1387 gw_15 gw_1388 hd_X12_thrown hC hw (c_X12_thrown γ l z z2 z10 z11 z12 z13 z14 z15 z16 z17 z18 z19 z22 z23 z24 z25 z26 z27 z28 z29 z30 z31 z32 z33 z36 z37 z38 z39 z40 z41 z42 z43 z44 z45 z46 z47 z48 z55 z56 z59 z60 z61 0 0 0 0 0 0 0 0 0 0 0 0 0 10 0 0 0 0 0 0 0 0 1) ⟨by decide, by decide⟩ ⟨by decide, by decide⟩ hl.1 rfl 1 rfl rfl rfl (Nat.le_of_ble_eq_true rfl) [1] [0] rfl rfl rfl rfl (by decide) dL_law_686 (fun r w1 H locs hq hw => ?_)
  obtain ⟨rfl, rfl⟩ := hq
  have hw : kW γ A [(ou, .inl (γ.2.1 1, 1, .inr (.inl (fun _ => 0))))] s H locs := hw
  refine W.eq (g2 := F0 m 689 ls [.int 1]) rfl ?_
  refine lv_iload hx hb dL_law_689 (lv_at hl 1 rfl) ?_
  refine lv_icmp_eq (tgt := 696) hx hb dL_law_691 (by decide) (fun _ => ?_) (fun h => absurd (by decide) h)
  refine lv_iload hx hb dL_law_696 (lv_at hl 1 rfl) ?_
  refine lv_if_ne (tgt := 713) hx hb dL_law_698 (by decide) (fun _ => ?_) (fun h => absurd h (by decide))
  refine lv_goto (tgt := 1370) hx hb dL_law_713 (by decide) ?_
  exact law_end hC hr hlocks hX hbl hbA hAs hl9 _ _ (kW.sub hw [] rfl rfl) (by decide) (by decide) _ (lv_sub hl [2, 6] rfl)

set_option maxHeartbeats 4000000 in
set_option maxRecDepth 100000 in
theorem lc_15_l {γ : kΓ} {l : Launch} {p : Program} {e : Env} {s : State} {m : MethodId} {below : List Frame} {meth : Method} {c : Code} {A : Nat → Prop} {b : Nat} {xs : Nat → Int32} (hC : kC γ p s m [Value.ref b].toArray c code 7 RL A) (hr : meth.sig.returnType = ret) (hlocks : meth.locks = false) (hX : va_X b 7 xs s s.heap) (hbl : b < s.heap.size) (hbA : ¬ A b) (hAs : ∀ q, A q → s.heap.size ≤ q) (hl9 : l.stackTraces = false) (x : Nat) (x0 : Nat) (x1 : Nat) (x2 : Nat) (x3 : Nat) (x4 : Nat) (x5 : Nat) (x6 : Nat) (x7 : Nat) (x8 : Nat) (x9 : Nat) (x10 : Nat) (z : Nat) (z2 : Nat) (z10 : Nat) (z11 : Nat) (z12 : Nat) (z13 : Nat) (z14 : Nat) (z15 : Nat) (z16 : Nat) (z17 : Nat) (z18 : Nat) (z19 : Nat) (z22 : Nat) (z23 : Nat) (z24 : Nat) (z25 : Nat) (z26 : Nat) (z27 : Nat) (z28 : Nat) (z29 : Nat) (z30 : Nat) (z31 : Nat) (z32 : Nat) (z33 : Nat) (z36 : Nat) (z37 : Nat) (z38 : Nat) (z39 : Nat) (z40 : Nat) (z41 : Nat) (z42 : Nat) (z43 : Nat) (z44 : Nat) (z45 : Nat) (z46 : Nat) (z47 : Nat) (z48 : Nat) (z55 : Nat) (z56 : Nat) (z59 : Nat) (z60 : Nat) (z61 : Nat) (x90 : Nat) (x91 : Nat) (x92 : Nat) (x93 : Nat) (x94 : Nat) (x95 : Nat) (x96 : Nat) (x97 : Nat) (fa : Nat → Int32) (ou : Nat) (ha0 : fa 0 = 0) (ha1 : fa 1 = 0) (ha2 : fa 2 = 10) (ha3 : fa 3 = 10) (ha4 : fa 4 = 3) (h1 : xs 1 < 1) (H : Heap) (locs : List Loc) (hw : kW γ A [(x, .inr (10, [.ref x0, .ref x1, .ref x2, .ref x3, .ref x4, .ref x5, .ref x6, .ref x7, .ref x8, .ref x9, .ref x10])), (z, .inr (11, [.int 0, .int 0, .ref z2, .int 0, .int 0, .int 0, .int 0, .long 0, .int 0, .int 0, .ref z10, .ref z11, .ref z12, .ref z13, .ref z14, .ref z15, .ref z16, .ref z17, .ref z18, .ref z19, .int 0, .int 0, .ref z22, .ref z23, .ref z24, .ref z25, .ref z26, .ref z27, .ref z28, .ref z29, .ref z30, .ref z31, .ref z32, .ref z33, .int 0, .long 0, .ref z36, .ref z37, .ref z38, .ref z39, .ref z40, .ref z41, .ref z42, .ref z43, .ref z44, .ref z45, .ref z46, .ref z47, .ref z48, .int 0, .int 10, .int 0, .int 0, .int 0, .int 0, .ref z55, .ref z56, .int 0, .int 0, .ref z59, .ref z60, .ref z61, .int 0, .long 0])), (x9, .inr (0, [.ref x90, .ref x91, .ref x92, .ref x93, .ref x94, .ref x95, .ref x96, .ref x97, .int 0, .int 0, .int 10, .int 10, .int 3, .int 0, .int 0, .int 0, .int 0, .int 0, .int 0])), (z10, .inl (γ.2.1 0, 10, .inl fa))] s H locs) (ls : Array Slot) (hl : lv_has ls 7 [(4, .int 0), (3, .ref ou), (2, .ref z), (1, .ref x), (0, .ref b)]) : W p l e room_1 s m [Value.ref b].toArray below meth c H locs 251 13922 (lw_Z below #[Value.ref b] s) (F0 m 827 ls []) := by
  have hx := hC.1
  have hb := hC.2.1
  refine lv_aload_n hx hb dL_law_827 rfl (lv_at hl 3 rfl) ?_
  refine lv_aload_n hx hb dL_law_828 rfl (lv_at hl 4 rfl) ?_
  refine lv_iload hx hb dL_law_829 (lv_at hl 0 rfl) ?_
  refine lv_iconst (v := 1) hx hb dL_law_831 (by decide) ?_
  refine lv_iadd hx hb dL_law_832 ?_
  refine lv_topi (fun x_2219 ex_2219 => ?_)
  obtain rfl : x_2219 = 1 := ex_2219.trans (by decide)
  refine va_sld hx hb hX hbl hbA hw.2.2 (k_in0 (by decide)) dL_law_833 ?_
  refine lv_topi (fun x_2220 ex_2220 => ?_)
  obtain rfl : x_2220 = xs 1 := ex_2220
  refine k_V (wr := [(z, .inr (11, [.int 0, .int 0, .ref z2, .int 0, .int 0, .int 0, .int 0, .long 0, .int 0, .int 0, .ref z10, .ref z11, .ref z12, .ref z13, .ref z14, .ref z15, .ref z16, .ref z17, .ref z18, .ref z19, .int 0, .int 0, .ref z22, .ref z23, .ref z24, .ref z25, .ref z26, .ref z27, .ref z28, .ref z29, .ref z30, .ref z31, .ref z32, .ref z33, .int 0, .long 0, .ref z36, .ref z37, .ref z38, .ref z39, .ref z40, .ref z41, .ref z42, .ref z43, .ref z44, .ref z45, .ref z46, .ref z47, .ref z48, .int 0, .int 10, .int 0, .int 0, .int 0, .int 0, .ref z55, .ref z56, .int 0, .int 0, .ref z59, .ref z60, .ref z61, .int 0, .long 0])), (z10, .inl (γ.2.1 0, 10, .inl fa))]) 1 gw_942 gw_943 gw_944 gw_1 gw_945 hd_X11_holders hC hw (c_X11_holders γ l x x0 x1 x2 x3 x4 x5 x6 x7 x8 x9 x10 x90 x91 x92 x93 x94 x95 x96 x97 (xs 1)) ⟨by decide, by decide⟩ ⟨by decide, by decide⟩ hl.1 rfl 0 rfl rfl rfl (Nat.le_of_ble_eq_true rfl) [0, 2] [1, 3] rfl rfl rfl rfl (by decide) dL_law_834 (fun r w1 H locs hq hw => ?_)
  obtain ⟨r9_2221, rfl, rfl, g_2222⟩ := hq
  have hw : kW γ A [(z, .inr (11, [.int 0, .int 0, .ref z2, .int 0, .int 0, .int 0, .int 0, .long 0, .int 0, .int 0, .ref z10, .ref z11, .ref z12, .ref z13, .ref z14, .ref z15, .ref z16, .ref z17, .ref z18, .ref z19, .int 0, .int 0, .ref z22, .ref z23, .ref z24, .ref z25, .ref z26, .ref z27, .ref z28, .ref z29, .ref z30, .ref z31, .ref z32, .ref z33, .int 0, .long 0, .ref z36, .ref z37, .ref z38, .ref z39, .ref z40, .ref z41, .ref z42, .ref z43, .ref z44, .ref z45, .ref z46, .ref z47, .ref z48, .int 0, .int 10, .int 0, .int 0, .int 0, .int 0, .ref z55, .ref z56, .int 0, .int 0, .ref z59, .ref z60, .ref z61, .int 0, .long 0])), (z10, .inl (γ.2.1 0, 10, .inl fa))] s H locs := hw
  refine W.eq (g2 := F0 m 837 ls [.int r9_2221]) rfl ?_
  obtain rfl : r9_2221 = (-1) := g_2222.trans (by unfold kholders; rw [if_pos h1])
  refine lv_aload_n hx hb dL_law_837 rfl (lv_at hl 2 rfl) ?_
  refine lv_aload_n hx hb dL_law_838 rfl (lv_at hl 4 rfl) ?_
  refine lv_iload hx hb dL_law_839 (lv_at hl 0 rfl) ?_
  refine lv_iconst (v := 1) hx hb dL_law_841 (by decide) ?_
  refine lv_iadd hx hb dL_law_842 ?_
  refine lv_topi (fun x_2223 ex_2223 => ?_)
  obtain rfl : x_2223 = 1 := ex_2223.trans (by decide)
  refine va_sld hx hb hX hbl hbA hw.2.2 (k_in0 (by decide)) dL_law_843 ?_
  refine lv_topi (fun x_2224 ex_2224 => ?_)
  obtain rfl : x_2224 = xs 1 := ex_2224
  refine k_V (wr := []) 1 gw_1740 gw_1741 gw_1742 gw_15 gw_1743 hd_X12_holders hC hw (c_X12_holders_l γ l z z2 z10 z11 z12 z13 z14 z15 z16 z17 z18 z19 z22 z23 z24 z25 z26 z27 z28 z29 z30 z31 z32 z33 z36 z37 z38 z39 z40 z41 z42 z43 z44 z45 z46 z47 z48 z55 z56 z59 z60 z61 fa (xs 1) ha0 ha1 ha2 ha3 ha4 h1) ⟨by decide, by decide⟩ ⟨by decide, by decide⟩ hl.1 rfl 0 rfl rfl rfl (Nat.le_of_ble_eq_true rfl) [0, 1] [] rfl rfl rfl rfl (by decide) dL_law_844 (fun r w1 H locs hq hw => ?_)
  obtain ⟨rfl, rfl⟩ := hq
  have hw : kW γ A [] s H locs := hw
  refine W.eq (g2 := F0 m 847 ls [.int (-1), .int (-1)]) rfl ?_
  refine lv_icmp_eq (tgt := 1370) hx hb dL_law_847 (by decide) (fun _ => ?_) (fun h => absurd (by decide) h)
  exact law_end hC hr hlocks hX hbl hbA hAs hl9 _ _ (kW.sub hw [] rfl rfl) (by decide) (by decide) _ (lv_sub hl [0, 4] rfl)

set_option maxHeartbeats 4000000 in
set_option maxRecDepth 100000 in
theorem lc_15_h {γ : kΓ} {l : Launch} {p : Program} {e : Env} {s : State} {m : MethodId} {below : List Frame} {meth : Method} {c : Code} {A : Nat → Prop} {b : Nat} {xs : Nat → Int32} (hC : kC γ p s m [Value.ref b].toArray c code 7 RL A) (hr : meth.sig.returnType = ret) (hlocks : meth.locks = false) (hX : va_X b 7 xs s s.heap) (hbl : b < s.heap.size) (hbA : ¬ A b) (hAs : ∀ q, A q → s.heap.size ≤ q) (hl9 : l.stackTraces = false) (x : Nat) (x0 : Nat) (x1 : Nat) (x2 : Nat) (x3 : Nat) (x4 : Nat) (x5 : Nat) (x6 : Nat) (x7 : Nat) (x8 : Nat) (x9 : Nat) (x10 : Nat) (z : Nat) (z2 : Nat) (z10 : Nat) (z11 : Nat) (z12 : Nat) (z13 : Nat) (z14 : Nat) (z15 : Nat) (z16 : Nat) (z17 : Nat) (z18 : Nat) (z19 : Nat) (z22 : Nat) (z23 : Nat) (z24 : Nat) (z25 : Nat) (z26 : Nat) (z27 : Nat) (z28 : Nat) (z29 : Nat) (z30 : Nat) (z31 : Nat) (z32 : Nat) (z33 : Nat) (z36 : Nat) (z37 : Nat) (z38 : Nat) (z39 : Nat) (z40 : Nat) (z41 : Nat) (z42 : Nat) (z43 : Nat) (z44 : Nat) (z45 : Nat) (z46 : Nat) (z47 : Nat) (z48 : Nat) (z55 : Nat) (z56 : Nat) (z59 : Nat) (z60 : Nat) (z61 : Nat) (x90 : Nat) (x91 : Nat) (x92 : Nat) (x93 : Nat) (x94 : Nat) (x95 : Nat) (x96 : Nat) (x97 : Nat) (fa : Nat → Int32) (ou : Nat) (ha0 : fa 0 = 0) (ha1 : fa 1 = 0) (ha2 : fa 2 = 10) (ha3 : fa 3 = 10) (ha4 : fa 4 = 3) (h1 : ¬ xs 1 < 1) (h2 : 6 < xs 1) (H : Heap) (locs : List Loc) (hw : kW γ A [(x, .inr (10, [.ref x0, .ref x1, .ref x2, .ref x3, .ref x4, .ref x5, .ref x6, .ref x7, .ref x8, .ref x9, .ref x10])), (z, .inr (11, [.int 0, .int 0, .ref z2, .int 0, .int 0, .int 0, .int 0, .long 0, .int 0, .int 0, .ref z10, .ref z11, .ref z12, .ref z13, .ref z14, .ref z15, .ref z16, .ref z17, .ref z18, .ref z19, .int 0, .int 0, .ref z22, .ref z23, .ref z24, .ref z25, .ref z26, .ref z27, .ref z28, .ref z29, .ref z30, .ref z31, .ref z32, .ref z33, .int 0, .long 0, .ref z36, .ref z37, .ref z38, .ref z39, .ref z40, .ref z41, .ref z42, .ref z43, .ref z44, .ref z45, .ref z46, .ref z47, .ref z48, .int 0, .int 10, .int 0, .int 0, .int 0, .int 0, .ref z55, .ref z56, .int 0, .int 0, .ref z59, .ref z60, .ref z61, .int 0, .long 0])), (x9, .inr (0, [.ref x90, .ref x91, .ref x92, .ref x93, .ref x94, .ref x95, .ref x96, .ref x97, .int 0, .int 0, .int 10, .int 10, .int 3, .int 0, .int 0, .int 0, .int 0, .int 0, .int 0])), (z10, .inl (γ.2.1 0, 10, .inl fa))] s H locs) (ls : Array Slot) (hl : lv_has ls 7 [(4, .int 0), (3, .ref ou), (2, .ref z), (1, .ref x), (0, .ref b)]) : W p l e room_1 s m [Value.ref b].toArray below meth c H locs 251 13922 (lw_Z below #[Value.ref b] s) (F0 m 827 ls []) := by
  have hx := hC.1
  have hb := hC.2.1
  refine lv_aload_n hx hb dL_law_827 rfl (lv_at hl 3 rfl) ?_
  refine lv_aload_n hx hb dL_law_828 rfl (lv_at hl 4 rfl) ?_
  refine lv_iload hx hb dL_law_829 (lv_at hl 0 rfl) ?_
  refine lv_iconst (v := 1) hx hb dL_law_831 (by decide) ?_
  refine lv_iadd hx hb dL_law_832 ?_
  refine lv_topi (fun x_2225 ex_2225 => ?_)
  obtain rfl : x_2225 = 1 := ex_2225.trans (by decide)
  refine va_sld hx hb hX hbl hbA hw.2.2 (k_in0 (by decide)) dL_law_833 ?_
  refine lv_topi (fun x_2226 ex_2226 => ?_)
  obtain rfl : x_2226 = xs 1 := ex_2226
  refine k_V (wr := [(z, .inr (11, [.int 0, .int 0, .ref z2, .int 0, .int 0, .int 0, .int 0, .long 0, .int 0, .int 0, .ref z10, .ref z11, .ref z12, .ref z13, .ref z14, .ref z15, .ref z16, .ref z17, .ref z18, .ref z19, .int 0, .int 0, .ref z22, .ref z23, .ref z24, .ref z25, .ref z26, .ref z27, .ref z28, .ref z29, .ref z30, .ref z31, .ref z32, .ref z33, .int 0, .long 0, .ref z36, .ref z37, .ref z38, .ref z39, .ref z40, .ref z41, .ref z42, .ref z43, .ref z44, .ref z45, .ref z46, .ref z47, .ref z48, .int 0, .int 10, .int 0, .int 0, .int 0, .int 0, .ref z55, .ref z56, .int 0, .int 0, .ref z59, .ref z60, .ref z61, .int 0, .long 0])), (z10, .inl (γ.2.1 0, 10, .inl fa))]) 1 gw_942 gw_943 gw_944 gw_1 gw_945 hd_X11_holders hC hw (c_X11_holders γ l x x0 x1 x2 x3 x4 x5 x6 x7 x8 x9 x10 x90 x91 x92 x93 x94 x95 x96 x97 (xs 1)) ⟨by decide, by decide⟩ ⟨by decide, by decide⟩ hl.1 rfl 0 rfl rfl rfl (Nat.le_of_ble_eq_true rfl) [0, 2] [1, 3] rfl rfl rfl rfl (by decide) dL_law_834 (fun r w1 H locs hq hw => ?_)
  obtain ⟨r9_2227, rfl, rfl, g_2228⟩ := hq
  have hw : kW γ A [(z, .inr (11, [.int 0, .int 0, .ref z2, .int 0, .int 0, .int 0, .int 0, .long 0, .int 0, .int 0, .ref z10, .ref z11, .ref z12, .ref z13, .ref z14, .ref z15, .ref z16, .ref z17, .ref z18, .ref z19, .int 0, .int 0, .ref z22, .ref z23, .ref z24, .ref z25, .ref z26, .ref z27, .ref z28, .ref z29, .ref z30, .ref z31, .ref z32, .ref z33, .int 0, .long 0, .ref z36, .ref z37, .ref z38, .ref z39, .ref z40, .ref z41, .ref z42, .ref z43, .ref z44, .ref z45, .ref z46, .ref z47, .ref z48, .int 0, .int 10, .int 0, .int 0, .int 0, .int 0, .ref z55, .ref z56, .int 0, .int 0, .ref z59, .ref z60, .ref z61, .int 0, .long 0])), (z10, .inl (γ.2.1 0, 10, .inl fa))] s H locs := hw
  refine W.eq (g2 := F0 m 837 ls [.int r9_2227]) rfl ?_
  obtain rfl : r9_2227 = (-1) := g_2228.trans (by unfold kholders; rw [if_neg h1, if_pos h2])
  refine lv_aload_n hx hb dL_law_837 rfl (lv_at hl 2 rfl) ?_
  refine lv_aload_n hx hb dL_law_838 rfl (lv_at hl 4 rfl) ?_
  refine lv_iload hx hb dL_law_839 (lv_at hl 0 rfl) ?_
  refine lv_iconst (v := 1) hx hb dL_law_841 (by decide) ?_
  refine lv_iadd hx hb dL_law_842 ?_
  refine lv_topi (fun x_2229 ex_2229 => ?_)
  obtain rfl : x_2229 = 1 := ex_2229.trans (by decide)
  refine va_sld hx hb hX hbl hbA hw.2.2 (k_in0 (by decide)) dL_law_843 ?_
  refine lv_topi (fun x_2230 ex_2230 => ?_)
  obtain rfl : x_2230 = xs 1 := ex_2230
  refine k_V (wr := []) 1 gw_1740 gw_1741 gw_1742 gw_15 gw_1743 hd_X12_holders hC hw (c_X12_holders_h γ l z z2 z10 z11 z12 z13 z14 z15 z16 z17 z18 z19 z22 z23 z24 z25 z26 z27 z28 z29 z30 z31 z32 z33 z36 z37 z38 z39 z40 z41 z42 z43 z44 z45 z46 z47 z48 z55 z56 z59 z60 z61 fa (xs 1) ha0 ha1 ha2 ha3 ha4 h1 h2) ⟨by decide, by decide⟩ ⟨by decide, by decide⟩ hl.1 rfl 0 rfl rfl rfl (Nat.le_of_ble_eq_true rfl) [0, 1] [] rfl rfl rfl rfl (by decide) dL_law_844 (fun r w1 H locs hq hw => ?_)
  obtain ⟨rfl, rfl⟩ := hq
  have hw : kW γ A [] s H locs := hw
  refine W.eq (g2 := F0 m 847 ls [.int (-1), .int (-1)]) rfl ?_
  refine lv_icmp_eq (tgt := 1370) hx hb dL_law_847 (by decide) (fun _ => ?_) (fun h => absurd (by decide) h)
  exact law_end hC hr hlocks hX hbl hbA hAs hl9 _ _ (kW.sub hw [] rfl rfl) (by decide) (by decide) _ (lv_sub hl [0, 4] rfl)

set_option maxHeartbeats 4000000 in
set_option maxRecDepth 100000 in
theorem lc_15_t {γ : kΓ} {l : Launch} {p : Program} {e : Env} {s : State} {m : MethodId} {below : List Frame} {meth : Method} {c : Code} {A : Nat → Prop} {b : Nat} {xs : Nat → Int32} (hC : kC γ p s m [Value.ref b].toArray c code 7 RL A) (hr : meth.sig.returnType = ret) (hlocks : meth.locks = false) (hX : va_X b 7 xs s s.heap) (hbl : b < s.heap.size) (hbA : ¬ A b) (hAs : ∀ q, A q → s.heap.size ≤ q) (hl9 : l.stackTraces = false) (x : Nat) (x0 : Nat) (x1 : Nat) (x2 : Nat) (x3 : Nat) (x4 : Nat) (x5 : Nat) (x6 : Nat) (x7 : Nat) (x8 : Nat) (x9 : Nat) (x10 : Nat) (z : Nat) (z2 : Nat) (z10 : Nat) (z11 : Nat) (z12 : Nat) (z13 : Nat) (z14 : Nat) (z15 : Nat) (z16 : Nat) (z17 : Nat) (z18 : Nat) (z19 : Nat) (z22 : Nat) (z23 : Nat) (z24 : Nat) (z25 : Nat) (z26 : Nat) (z27 : Nat) (z28 : Nat) (z29 : Nat) (z30 : Nat) (z31 : Nat) (z32 : Nat) (z33 : Nat) (z36 : Nat) (z37 : Nat) (z38 : Nat) (z39 : Nat) (z40 : Nat) (z41 : Nat) (z42 : Nat) (z43 : Nat) (z44 : Nat) (z45 : Nat) (z46 : Nat) (z47 : Nat) (z48 : Nat) (z55 : Nat) (z56 : Nat) (z59 : Nat) (z60 : Nat) (z61 : Nat) (x90 : Nat) (x91 : Nat) (x92 : Nat) (x93 : Nat) (x94 : Nat) (x95 : Nat) (x96 : Nat) (x97 : Nat) (fa : Nat → Int32) (ou : Nat) (ha0 : fa 0 = 0) (ha1 : fa 1 = 0) (ha2 : fa 2 = 10) (ha3 : fa 3 = 10) (ha4 : fa 4 = 3) (h1 : ¬ xs 1 < 1) (h2 : ¬ 6 < xs 1) (H : Heap) (locs : List Loc) (hw : kW γ A [(x, .inr (10, [.ref x0, .ref x1, .ref x2, .ref x3, .ref x4, .ref x5, .ref x6, .ref x7, .ref x8, .ref x9, .ref x10])), (z, .inr (11, [.int 0, .int 0, .ref z2, .int 0, .int 0, .int 0, .int 0, .long 0, .int 0, .int 0, .ref z10, .ref z11, .ref z12, .ref z13, .ref z14, .ref z15, .ref z16, .ref z17, .ref z18, .ref z19, .int 0, .int 0, .ref z22, .ref z23, .ref z24, .ref z25, .ref z26, .ref z27, .ref z28, .ref z29, .ref z30, .ref z31, .ref z32, .ref z33, .int 0, .long 0, .ref z36, .ref z37, .ref z38, .ref z39, .ref z40, .ref z41, .ref z42, .ref z43, .ref z44, .ref z45, .ref z46, .ref z47, .ref z48, .int 0, .int 10, .int 0, .int 0, .int 0, .int 0, .ref z55, .ref z56, .int 0, .int 0, .ref z59, .ref z60, .ref z61, .int 0, .long 0])), (x9, .inr (0, [.ref x90, .ref x91, .ref x92, .ref x93, .ref x94, .ref x95, .ref x96, .ref x97, .int 0, .int 0, .int 10, .int 10, .int 3, .int 0, .int 0, .int 0, .int 0, .int 0, .int 0])), (z10, .inl (γ.2.1 0, 10, .inl fa))] s H locs) (ls : Array Slot) (hl : lv_has ls 7 [(4, .int 0), (3, .ref ou), (2, .ref z), (1, .ref x), (0, .ref b)]) : W p l e room_1 s m [Value.ref b].toArray below meth c H locs 251 13922 (lw_Z below #[Value.ref b] s) (F0 m 827 ls []) := by
  have hx := hC.1
  have hb := hC.2.1
  refine lv_aload_n hx hb dL_law_827 rfl (lv_at hl 3 rfl) ?_
  refine lv_aload_n hx hb dL_law_828 rfl (lv_at hl 4 rfl) ?_
  refine lv_iload hx hb dL_law_829 (lv_at hl 0 rfl) ?_
  refine lv_iconst (v := 1) hx hb dL_law_831 (by decide) ?_
  refine lv_iadd hx hb dL_law_832 ?_
  refine lv_topi (fun x_2231 ex_2231 => ?_)
  obtain rfl : x_2231 = 1 := ex_2231.trans (by decide)
  refine va_sld hx hb hX hbl hbA hw.2.2 (k_in0 (by decide)) dL_law_833 ?_
  refine lv_topi (fun x_2232 ex_2232 => ?_)
  obtain rfl : x_2232 = xs 1 := ex_2232
  refine k_V (wr := [(z, .inr (11, [.int 0, .int 0, .ref z2, .int 0, .int 0, .int 0, .int 0, .long 0, .int 0, .int 0, .ref z10, .ref z11, .ref z12, .ref z13, .ref z14, .ref z15, .ref z16, .ref z17, .ref z18, .ref z19, .int 0, .int 0, .ref z22, .ref z23, .ref z24, .ref z25, .ref z26, .ref z27, .ref z28, .ref z29, .ref z30, .ref z31, .ref z32, .ref z33, .int 0, .long 0, .ref z36, .ref z37, .ref z38, .ref z39, .ref z40, .ref z41, .ref z42, .ref z43, .ref z44, .ref z45, .ref z46, .ref z47, .ref z48, .int 0, .int 10, .int 0, .int 0, .int 0, .int 0, .ref z55, .ref z56, .int 0, .int 0, .ref z59, .ref z60, .ref z61, .int 0, .long 0])), (z10, .inl (γ.2.1 0, 10, .inl fa))]) 1 gw_942 gw_943 gw_944 gw_1 gw_945 hd_X11_holders hC hw (c_X11_holders γ l x x0 x1 x2 x3 x4 x5 x6 x7 x8 x9 x10 x90 x91 x92 x93 x94 x95 x96 x97 (xs 1)) ⟨by decide, by decide⟩ ⟨by decide, by decide⟩ hl.1 rfl 0 rfl rfl rfl (Nat.le_of_ble_eq_true rfl) [0, 2] [1, 3] rfl rfl rfl rfl (by decide) dL_law_834 (fun r w1 H locs hq hw => ?_)
  obtain ⟨r9_2233, rfl, rfl, g_2234⟩ := hq
  have hw : kW γ A [(z, .inr (11, [.int 0, .int 0, .ref z2, .int 0, .int 0, .int 0, .int 0, .long 0, .int 0, .int 0, .ref z10, .ref z11, .ref z12, .ref z13, .ref z14, .ref z15, .ref z16, .ref z17, .ref z18, .ref z19, .int 0, .int 0, .ref z22, .ref z23, .ref z24, .ref z25, .ref z26, .ref z27, .ref z28, .ref z29, .ref z30, .ref z31, .ref z32, .ref z33, .int 0, .long 0, .ref z36, .ref z37, .ref z38, .ref z39, .ref z40, .ref z41, .ref z42, .ref z43, .ref z44, .ref z45, .ref z46, .ref z47, .ref z48, .int 0, .int 10, .int 0, .int 0, .int 0, .int 0, .ref z55, .ref z56, .int 0, .int 0, .ref z59, .ref z60, .ref z61, .int 0, .long 0])), (z10, .inl (γ.2.1 0, 10, .inl fa))] s H locs := hw
  refine W.eq (g2 := F0 m 837 ls [.int r9_2233]) rfl ?_
  obtain rfl : r9_2233 = 0 := g_2234.trans (by unfold kholders; rw [if_neg h1, if_neg h2])
  refine lv_aload_n hx hb dL_law_837 rfl (lv_at hl 2 rfl) ?_
  refine lv_aload_n hx hb dL_law_838 rfl (lv_at hl 4 rfl) ?_
  refine lv_iload hx hb dL_law_839 (lv_at hl 0 rfl) ?_
  refine lv_iconst (v := 1) hx hb dL_law_841 (by decide) ?_
  refine lv_iadd hx hb dL_law_842 ?_
  refine lv_topi (fun x_2235 ex_2235 => ?_)
  obtain rfl : x_2235 = 1 := ex_2235.trans (by decide)
  refine va_sld hx hb hX hbl hbA hw.2.2 (k_in0 (by decide)) dL_law_843 ?_
  refine lv_topi (fun x_2236 ex_2236 => ?_)
  obtain rfl : x_2236 = xs 1 := ex_2236
  refine k_V (wr := []) 1 gw_1740 gw_1741 gw_1742 gw_15 gw_1743 hd_X12_holders hC hw (c_X12_holders_t γ l z z2 z10 z11 z12 z13 z14 z15 z16 z17 z18 z19 z22 z23 z24 z25 z26 z27 z28 z29 z30 z31 z32 z33 z36 z37 z38 z39 z40 z41 z42 z43 z44 z45 z46 z47 z48 z55 z56 z59 z60 z61 fa (xs 1) ha0 ha1 ha2 ha3 ha4 h1 h2) ⟨by decide, by decide⟩ ⟨by decide, by decide⟩ hl.1 rfl 0 rfl rfl rfl (Nat.le_of_ble_eq_true rfl) [0, 1] [] rfl rfl rfl rfl (by decide) dL_law_844 (fun r w1 H locs hq hw => ?_)
  obtain ⟨rfl, rfl⟩ := hq
  have hw : kW γ A [] s H locs := hw
  refine W.eq (g2 := F0 m 847 ls [.int 0, .int 0]) rfl ?_
  refine lv_icmp_eq (tgt := 1370) hx hb dL_law_847 (by decide) (fun _ => ?_) (fun h => absurd (by decide) h)
  exact law_end hC hr hlocks hX hbl hbA hAs hl9 _ _ (kW.sub hw [] rfl rfl) (by decide) (by decide) _ (lv_sub hl [0, 4] rfl)

set_option maxHeartbeats 4000000 in
set_option maxRecDepth 100000 in
theorem lc_28_l {γ : kΓ} {l : Launch} {p : Program} {e : Env} {s : State} {m : MethodId} {below : List Frame} {meth : Method} {c : Code} {A : Nat → Prop} {b : Nat} {xs : Nat → Int32} (hC : kC γ p s m [Value.ref b].toArray c code 7 RL A) (hr : meth.sig.returnType = ret) (hlocks : meth.locks = false) (hX : va_X b 7 xs s s.heap) (hbl : b < s.heap.size) (hbA : ¬ A b) (hAs : ∀ q, A q → s.heap.size ≤ q) (hl9 : l.stackTraces = false) (x : Nat) (x0 : Nat) (x1 : Nat) (x2 : Nat) (x3 : Nat) (x4 : Nat) (x5 : Nat) (x6 : Nat) (x7 : Nat) (x8 : Nat) (x9 : Nat) (x10 : Nat) (z : Nat) (z2 : Nat) (z10 : Nat) (z11 : Nat) (z12 : Nat) (z13 : Nat) (z14 : Nat) (z15 : Nat) (z16 : Nat) (z17 : Nat) (z18 : Nat) (z19 : Nat) (z22 : Nat) (z23 : Nat) (z24 : Nat) (z25 : Nat) (z26 : Nat) (z27 : Nat) (z28 : Nat) (z29 : Nat) (z30 : Nat) (z31 : Nat) (z32 : Nat) (z33 : Nat) (z36 : Nat) (z37 : Nat) (z38 : Nat) (z39 : Nat) (z40 : Nat) (z41 : Nat) (z42 : Nat) (z43 : Nat) (z44 : Nat) (z45 : Nat) (z46 : Nat) (z47 : Nat) (z48 : Nat) (z55 : Nat) (z56 : Nat) (z59 : Nat) (z60 : Nat) (z61 : Nat) (x90 : Nat) (x91 : Nat) (x92 : Nat) (x93 : Nat) (x94 : Nat) (x95 : Nat) (x96 : Nat) (x97 : Nat) (x4s : Nat) (x4s_l : Nat) (x4s_c : Nat) (x4s_g : Nat) (x4s_r : Nat) (x4s_k : Nat) (x4s_b : Nat) (fx4s_l : Nat → Int32) (fx4s_c : Nat → Int32) (fx4s_g : Nat → Int32) (fx4s_r : Nat → Int64) (fx4s_k : Nat → Int32) (fx4s_b : Nat → Int32) (x2s : Nat) (x2y : Nat) (x2q : Nat) (ou : Nat) (h1 : xs 1 < 2) (H : Heap) (locs : List Loc) (hw : kW γ A [(x, .inr (10, [.ref x0, .ref x1, .ref x2, .ref x3, .ref x4, .ref x5, .ref x6, .ref x7, .ref x8, .ref x9, .ref x10])), (z, .inr (11, [.int 0, .int 0, .ref z2, .int 0, .int 0, .int 0, .int 0, .long 0, .int 0, .int 0, .ref z10, .ref z11, .ref z12, .ref z13, .ref z14, .ref z15, .ref z16, .ref z17, .ref z18, .ref z19, .int 0, .int 0, .ref z22, .ref z23, .ref z24, .ref z25, .ref z26, .ref z27, .ref z28, .ref z29, .ref z30, .ref z31, .ref z32, .ref z33, .int 0, .long 0, .ref z36, .ref z37, .ref z38, .ref z39, .ref z40, .ref z41, .ref z42, .ref z43, .ref z44, .ref z45, .ref z46, .ref z47, .ref z48, .int 0, .int 10, .int 0, .int 0, .int 0, .int 0, .ref z55, .ref z56, .int 0, .int 0, .ref z59, .ref z60, .ref z61, .int 0, .long 0])), (x9, .inr (0, [.ref x90, .ref x91, .ref x92, .ref x93, .ref x94, .ref x95, .ref x96, .ref x97, .int 0, .int 0, .int 10, .int 10, .int 3, .int 0, .int 0, .int 0, .int 0, .int 0, .int 0])), (x4, .inr (2, [.ref x4s, .int 0, .int 0, .int 0, .long 0])), (x4s, .inr (7, [.ref x4s_l, .ref x4s_c, .ref x4s_g, .ref x4s_r, .ref x4s_k, .ref x4s_b, .int 0, .int 0, .int 0])), (x4s_l, .inl (γ.2.1 0, 5, .inl fx4s_l)), (x4s_c, .inl (γ.2.1 0, 5, .inl fx4s_c)), (x4s_g, .inl (γ.2.1 0, 5, .inl fx4s_g)), (x4s_r, .inl (γ.2.1 1, 5, .inr (.inl fx4s_r))), (x4s_k, .inl (γ.2.1 0, 40, .inl fx4s_k)), (x4s_b, .inl (γ.2.1 0, 8, .inl fx4s_b)), (x2, .inr (3, [.ref x2s, .ref x2y, .ref x2q, .int 0, .int 0, .int 0]))] s H locs) (ls : Array Slot) (hl : lv_has ls 7 [(4, .int 0), (3, .ref ou), (2, .ref z), (1, .ref x), (0, .ref b)]) : W p l e room_1 s m [Value.ref b].toArray below meth c H locs 251 13922 (lw_Z below #[Value.ref b] s) (F0 m 1187 ls []) := by
  have hx := hC.1
  have hb := hC.2.1
  refine lv_aload_n hx hb dL_law_1187 rfl (lv_at hl 3 rfl) ?_
  refine lv_aload_n hx hb dL_law_1188 rfl (lv_at hl 4 rfl) ?_
  refine lv_iload hx hb dL_law_1189 (lv_at hl 0 rfl) ?_
  refine lv_iconst (v := 1) hx hb dL_law_1191 (by decide) ?_
  refine lv_iadd hx hb dL_law_1192 ?_
  refine lv_topi (fun x_2237 ex_2237 => ?_)
  obtain rfl : x_2237 = 1 := ex_2237.trans (by decide)
  refine va_sld hx hb hX hbl hbA hw.2.2 (k_in0 (by decide)) dL_law_1193 ?_
  refine lv_topi (fun x_2238 ex_2238 => ?_)
  obtain rfl : x_2238 = xs 1 := ex_2238
  refine k_V (wr := [(z, .inr (11, [.int 0, .int 0, .ref z2, .int 0, .int 0, .int 0, .int 0, .long 0, .int 0, .int 0, .ref z10, .ref z11, .ref z12, .ref z13, .ref z14, .ref z15, .ref z16, .ref z17, .ref z18, .ref z19, .int 0, .int 0, .ref z22, .ref z23, .ref z24, .ref z25, .ref z26, .ref z27, .ref z28, .ref z29, .ref z30, .ref z31, .ref z32, .ref z33, .int 0, .long 0, .ref z36, .ref z37, .ref z38, .ref z39, .ref z40, .ref z41, .ref z42, .ref z43, .ref z44, .ref z45, .ref z46, .ref z47, .ref z48, .int 0, .int 10, .int 0, .int 0, .int 0, .int 0, .ref z55, .ref z56, .int 0, .int 0, .ref z59, .ref z60, .ref z61, .int 0, .long 0]))]) 1 gw_857 gw_858 gw_859 gw_1 gw_860 hd_X11_other hC hw (c_X11_other γ l x x0 x1 x2 x3 x4 x5 x6 x7 x8 x9 x10 x90 x91 x92 x93 x94 x95 x96 x97 x4s x4s_l x4s_c x4s_g x4s_r x4s_k x4s_b fx4s_l fx4s_c fx4s_g fx4s_r fx4s_k fx4s_b x2s x2y x2q (xs 1)) ⟨by decide, by decide⟩ ⟨by decide, by decide⟩ hl.1 rfl 0 rfl rfl rfl (Nat.le_of_ble_eq_true rfl) [0, 2, 3, 4, 5, 6, 7, 8, 9, 10, 11] [1] rfl rfl rfl rfl (by decide) dL_law_1194 (fun r w1 H locs hq hw => ?_)
  obtain ⟨r9_2239, rfl, rfl, g_2240⟩ := hq
  have hw : kW γ A [(z, .inr (11, [.int 0, .int 0, .ref z2, .int 0, .int 0, .int 0, .int 0, .long 0, .int 0, .int 0, .ref z10, .ref z11, .ref z12, .ref z13, .ref z14, .ref z15, .ref z16, .ref z17, .ref z18, .ref z19, .int 0, .int 0, .ref z22, .ref z23, .ref z24, .ref z25, .ref z26, .ref z27, .ref z28, .ref z29, .ref z30, .ref z31, .ref z32, .ref z33, .int 0, .long 0, .ref z36, .ref z37, .ref z38, .ref z39, .ref z40, .ref z41, .ref z42, .ref z43, .ref z44, .ref z45, .ref z46, .ref z47, .ref z48, .int 0, .int 10, .int 0, .int 0, .int 0, .int 0, .ref z55, .ref z56, .int 0, .int 0, .ref z59, .ref z60, .ref z61, .int 0, .long 0]))] s H locs := hw
  refine W.eq (g2 := F0 m 1197 ls [.int r9_2239]) rfl ?_
  obtain rfl : r9_2239 = (-1) := g_2240.trans (by unfold kother; rw [if_pos h1])
  refine lv_aload_n hx hb dL_law_1197 rfl (lv_at hl 2 rfl) ?_
  refine lv_aload_n hx hb dL_law_1198 rfl (lv_at hl 4 rfl) ?_
  refine lv_iload hx hb dL_law_1199 (lv_at hl 0 rfl) ?_
  refine lv_iconst (v := 1) hx hb dL_law_1201 (by decide) ?_
  refine lv_iadd hx hb dL_law_1202 ?_
  refine lv_topi (fun x_2241 ex_2241 => ?_)
  obtain rfl : x_2241 = 1 := ex_2241.trans (by decide)
  refine va_sld hx hb hX hbl hbA hw.2.2 (k_in0 (by decide)) dL_law_1203 ?_
  refine lv_topi (fun x_2242 ex_2242 => ?_)
  obtain rfl : x_2242 = xs 1 := ex_2242
  refine k_V (wr := []) 1 gw_1672 gw_1673 gw_1674 gw_15 gw_1675 hd_X12_other hC hw (c_X12_other_l γ l z z2 z10 z11 z12 z13 z14 z15 z16 z17 z18 z19 z22 z23 z24 z25 z26 z27 z28 z29 z30 z31 z32 z33 z36 z37 z38 z39 z40 z41 z42 z43 z44 z45 z46 z47 z48 z55 z56 z59 z60 z61 (xs 1) h1) ⟨by decide, by decide⟩ ⟨by decide, by decide⟩ hl.1 rfl 0 rfl rfl rfl (Nat.le_of_ble_eq_true rfl) [0] [] rfl rfl rfl rfl (by decide) dL_law_1204 (fun r w1 H locs hq hw => ?_)
  obtain ⟨rfl, rfl⟩ := hq
  have hw : kW γ A [] s H locs := hw
  refine W.eq (g2 := F0 m 1207 ls [.int (-1), .int (-1)]) rfl ?_
  refine lv_icmp_eq (tgt := 1370) hx hb dL_law_1207 (by decide) (fun _ => ?_) (fun h => absurd (by decide) h)
  exact law_end hC hr hlocks hX hbl hbA hAs hl9 _ _ (kW.sub hw [] rfl rfl) (by decide) (by decide) _ (lv_sub hl [0, 4] rfl)

set_option maxHeartbeats 4000000 in
set_option maxRecDepth 100000 in
theorem lc_28_h {γ : kΓ} {l : Launch} {p : Program} {e : Env} {s : State} {m : MethodId} {below : List Frame} {meth : Method} {c : Code} {A : Nat → Prop} {b : Nat} {xs : Nat → Int32} (hC : kC γ p s m [Value.ref b].toArray c code 7 RL A) (hr : meth.sig.returnType = ret) (hlocks : meth.locks = false) (hX : va_X b 7 xs s s.heap) (hbl : b < s.heap.size) (hbA : ¬ A b) (hAs : ∀ q, A q → s.heap.size ≤ q) (hl9 : l.stackTraces = false) (x : Nat) (x0 : Nat) (x1 : Nat) (x2 : Nat) (x3 : Nat) (x4 : Nat) (x5 : Nat) (x6 : Nat) (x7 : Nat) (x8 : Nat) (x9 : Nat) (x10 : Nat) (z : Nat) (z2 : Nat) (z10 : Nat) (z11 : Nat) (z12 : Nat) (z13 : Nat) (z14 : Nat) (z15 : Nat) (z16 : Nat) (z17 : Nat) (z18 : Nat) (z19 : Nat) (z22 : Nat) (z23 : Nat) (z24 : Nat) (z25 : Nat) (z26 : Nat) (z27 : Nat) (z28 : Nat) (z29 : Nat) (z30 : Nat) (z31 : Nat) (z32 : Nat) (z33 : Nat) (z36 : Nat) (z37 : Nat) (z38 : Nat) (z39 : Nat) (z40 : Nat) (z41 : Nat) (z42 : Nat) (z43 : Nat) (z44 : Nat) (z45 : Nat) (z46 : Nat) (z47 : Nat) (z48 : Nat) (z55 : Nat) (z56 : Nat) (z59 : Nat) (z60 : Nat) (z61 : Nat) (x90 : Nat) (x91 : Nat) (x92 : Nat) (x93 : Nat) (x94 : Nat) (x95 : Nat) (x96 : Nat) (x97 : Nat) (x4s : Nat) (x4s_l : Nat) (x4s_c : Nat) (x4s_g : Nat) (x4s_r : Nat) (x4s_k : Nat) (x4s_b : Nat) (fx4s_l : Nat → Int32) (fx4s_c : Nat → Int32) (fx4s_g : Nat → Int32) (fx4s_r : Nat → Int64) (fx4s_k : Nat → Int32) (fx4s_b : Nat → Int32) (x2s : Nat) (x2y : Nat) (x2q : Nat) (ou : Nat) (h1 : ¬ xs 1 < 2) (h2 : 12 < xs 1) (H : Heap) (locs : List Loc) (hw : kW γ A [(x, .inr (10, [.ref x0, .ref x1, .ref x2, .ref x3, .ref x4, .ref x5, .ref x6, .ref x7, .ref x8, .ref x9, .ref x10])), (z, .inr (11, [.int 0, .int 0, .ref z2, .int 0, .int 0, .int 0, .int 0, .long 0, .int 0, .int 0, .ref z10, .ref z11, .ref z12, .ref z13, .ref z14, .ref z15, .ref z16, .ref z17, .ref z18, .ref z19, .int 0, .int 0, .ref z22, .ref z23, .ref z24, .ref z25, .ref z26, .ref z27, .ref z28, .ref z29, .ref z30, .ref z31, .ref z32, .ref z33, .int 0, .long 0, .ref z36, .ref z37, .ref z38, .ref z39, .ref z40, .ref z41, .ref z42, .ref z43, .ref z44, .ref z45, .ref z46, .ref z47, .ref z48, .int 0, .int 10, .int 0, .int 0, .int 0, .int 0, .ref z55, .ref z56, .int 0, .int 0, .ref z59, .ref z60, .ref z61, .int 0, .long 0])), (x9, .inr (0, [.ref x90, .ref x91, .ref x92, .ref x93, .ref x94, .ref x95, .ref x96, .ref x97, .int 0, .int 0, .int 10, .int 10, .int 3, .int 0, .int 0, .int 0, .int 0, .int 0, .int 0])), (x4, .inr (2, [.ref x4s, .int 0, .int 0, .int 0, .long 0])), (x4s, .inr (7, [.ref x4s_l, .ref x4s_c, .ref x4s_g, .ref x4s_r, .ref x4s_k, .ref x4s_b, .int 0, .int 0, .int 0])), (x4s_l, .inl (γ.2.1 0, 5, .inl fx4s_l)), (x4s_c, .inl (γ.2.1 0, 5, .inl fx4s_c)), (x4s_g, .inl (γ.2.1 0, 5, .inl fx4s_g)), (x4s_r, .inl (γ.2.1 1, 5, .inr (.inl fx4s_r))), (x4s_k, .inl (γ.2.1 0, 40, .inl fx4s_k)), (x4s_b, .inl (γ.2.1 0, 8, .inl fx4s_b)), (x2, .inr (3, [.ref x2s, .ref x2y, .ref x2q, .int 0, .int 0, .int 0]))] s H locs) (ls : Array Slot) (hl : lv_has ls 7 [(4, .int 0), (3, .ref ou), (2, .ref z), (1, .ref x), (0, .ref b)]) : W p l e room_1 s m [Value.ref b].toArray below meth c H locs 251 13922 (lw_Z below #[Value.ref b] s) (F0 m 1187 ls []) := by
  have hx := hC.1
  have hb := hC.2.1
  refine lv_aload_n hx hb dL_law_1187 rfl (lv_at hl 3 rfl) ?_
  refine lv_aload_n hx hb dL_law_1188 rfl (lv_at hl 4 rfl) ?_
  refine lv_iload hx hb dL_law_1189 (lv_at hl 0 rfl) ?_
  refine lv_iconst (v := 1) hx hb dL_law_1191 (by decide) ?_
  refine lv_iadd hx hb dL_law_1192 ?_
  refine lv_topi (fun x_2243 ex_2243 => ?_)
  obtain rfl : x_2243 = 1 := ex_2243.trans (by decide)
  refine va_sld hx hb hX hbl hbA hw.2.2 (k_in0 (by decide)) dL_law_1193 ?_
  refine lv_topi (fun x_2244 ex_2244 => ?_)
  obtain rfl : x_2244 = xs 1 := ex_2244
  refine k_V (wr := [(z, .inr (11, [.int 0, .int 0, .ref z2, .int 0, .int 0, .int 0, .int 0, .long 0, .int 0, .int 0, .ref z10, .ref z11, .ref z12, .ref z13, .ref z14, .ref z15, .ref z16, .ref z17, .ref z18, .ref z19, .int 0, .int 0, .ref z22, .ref z23, .ref z24, .ref z25, .ref z26, .ref z27, .ref z28, .ref z29, .ref z30, .ref z31, .ref z32, .ref z33, .int 0, .long 0, .ref z36, .ref z37, .ref z38, .ref z39, .ref z40, .ref z41, .ref z42, .ref z43, .ref z44, .ref z45, .ref z46, .ref z47, .ref z48, .int 0, .int 10, .int 0, .int 0, .int 0, .int 0, .ref z55, .ref z56, .int 0, .int 0, .ref z59, .ref z60, .ref z61, .int 0, .long 0]))]) 1 gw_857 gw_858 gw_859 gw_1 gw_860 hd_X11_other hC hw (c_X11_other γ l x x0 x1 x2 x3 x4 x5 x6 x7 x8 x9 x10 x90 x91 x92 x93 x94 x95 x96 x97 x4s x4s_l x4s_c x4s_g x4s_r x4s_k x4s_b fx4s_l fx4s_c fx4s_g fx4s_r fx4s_k fx4s_b x2s x2y x2q (xs 1)) ⟨by decide, by decide⟩ ⟨by decide, by decide⟩ hl.1 rfl 0 rfl rfl rfl (Nat.le_of_ble_eq_true rfl) [0, 2, 3, 4, 5, 6, 7, 8, 9, 10, 11] [1] rfl rfl rfl rfl (by decide) dL_law_1194 (fun r w1 H locs hq hw => ?_)
  obtain ⟨r9_2245, rfl, rfl, g_2246⟩ := hq
  have hw : kW γ A [(z, .inr (11, [.int 0, .int 0, .ref z2, .int 0, .int 0, .int 0, .int 0, .long 0, .int 0, .int 0, .ref z10, .ref z11, .ref z12, .ref z13, .ref z14, .ref z15, .ref z16, .ref z17, .ref z18, .ref z19, .int 0, .int 0, .ref z22, .ref z23, .ref z24, .ref z25, .ref z26, .ref z27, .ref z28, .ref z29, .ref z30, .ref z31, .ref z32, .ref z33, .int 0, .long 0, .ref z36, .ref z37, .ref z38, .ref z39, .ref z40, .ref z41, .ref z42, .ref z43, .ref z44, .ref z45, .ref z46, .ref z47, .ref z48, .int 0, .int 10, .int 0, .int 0, .int 0, .int 0, .ref z55, .ref z56, .int 0, .int 0, .ref z59, .ref z60, .ref z61, .int 0, .long 0]))] s H locs := hw
  refine W.eq (g2 := F0 m 1197 ls [.int r9_2245]) rfl ?_
  obtain rfl : r9_2245 = (-1) := g_2246.trans (by unfold kother; rw [if_neg h1, if_pos h2])
  refine lv_aload_n hx hb dL_law_1197 rfl (lv_at hl 2 rfl) ?_
  refine lv_aload_n hx hb dL_law_1198 rfl (lv_at hl 4 rfl) ?_
  refine lv_iload hx hb dL_law_1199 (lv_at hl 0 rfl) ?_
  refine lv_iconst (v := 1) hx hb dL_law_1201 (by decide) ?_
  refine lv_iadd hx hb dL_law_1202 ?_
  refine lv_topi (fun x_2247 ex_2247 => ?_)
  obtain rfl : x_2247 = 1 := ex_2247.trans (by decide)
  refine va_sld hx hb hX hbl hbA hw.2.2 (k_in0 (by decide)) dL_law_1203 ?_
  refine lv_topi (fun x_2248 ex_2248 => ?_)
  obtain rfl : x_2248 = xs 1 := ex_2248
  refine k_V (wr := []) 1 gw_1672 gw_1673 gw_1674 gw_15 gw_1675 hd_X12_other hC hw (c_X12_other_h γ l z z2 z10 z11 z12 z13 z14 z15 z16 z17 z18 z19 z22 z23 z24 z25 z26 z27 z28 z29 z30 z31 z32 z33 z36 z37 z38 z39 z40 z41 z42 z43 z44 z45 z46 z47 z48 z55 z56 z59 z60 z61 (xs 1) h1 h2) ⟨by decide, by decide⟩ ⟨by decide, by decide⟩ hl.1 rfl 0 rfl rfl rfl (Nat.le_of_ble_eq_true rfl) [0] [] rfl rfl rfl rfl (by decide) dL_law_1204 (fun r w1 H locs hq hw => ?_)
  obtain ⟨rfl, rfl⟩ := hq
  have hw : kW γ A [] s H locs := hw
  refine W.eq (g2 := F0 m 1207 ls [.int (-1), .int (-1)]) rfl ?_
  refine lv_icmp_eq (tgt := 1370) hx hb dL_law_1207 (by decide) (fun _ => ?_) (fun h => absurd (by decide) h)
  exact law_end hC hr hlocks hX hbl hbA hAs hl9 _ _ (kW.sub hw [] rfl rfl) (by decide) (by decide) _ (lv_sub hl [0, 4] rfl)

set_option maxHeartbeats 4000000 in
set_option maxRecDepth 100000 in
theorem lc_28_t {γ : kΓ} {l : Launch} {p : Program} {e : Env} {s : State} {m : MethodId} {below : List Frame} {meth : Method} {c : Code} {A : Nat → Prop} {b : Nat} {xs : Nat → Int32} (hC : kC γ p s m [Value.ref b].toArray c code 7 RL A) (hr : meth.sig.returnType = ret) (hlocks : meth.locks = false) (hX : va_X b 7 xs s s.heap) (hbl : b < s.heap.size) (hbA : ¬ A b) (hAs : ∀ q, A q → s.heap.size ≤ q) (hl9 : l.stackTraces = false) (x : Nat) (x0 : Nat) (x1 : Nat) (x2 : Nat) (x3 : Nat) (x4 : Nat) (x5 : Nat) (x6 : Nat) (x7 : Nat) (x8 : Nat) (x9 : Nat) (x10 : Nat) (z : Nat) (z2 : Nat) (z10 : Nat) (z11 : Nat) (z12 : Nat) (z13 : Nat) (z14 : Nat) (z15 : Nat) (z16 : Nat) (z17 : Nat) (z18 : Nat) (z19 : Nat) (z22 : Nat) (z23 : Nat) (z24 : Nat) (z25 : Nat) (z26 : Nat) (z27 : Nat) (z28 : Nat) (z29 : Nat) (z30 : Nat) (z31 : Nat) (z32 : Nat) (z33 : Nat) (z36 : Nat) (z37 : Nat) (z38 : Nat) (z39 : Nat) (z40 : Nat) (z41 : Nat) (z42 : Nat) (z43 : Nat) (z44 : Nat) (z45 : Nat) (z46 : Nat) (z47 : Nat) (z48 : Nat) (z55 : Nat) (z56 : Nat) (z59 : Nat) (z60 : Nat) (z61 : Nat) (x90 : Nat) (x91 : Nat) (x92 : Nat) (x93 : Nat) (x94 : Nat) (x95 : Nat) (x96 : Nat) (x97 : Nat) (x4s : Nat) (x4s_l : Nat) (x4s_c : Nat) (x4s_g : Nat) (x4s_r : Nat) (x4s_k : Nat) (x4s_b : Nat) (fx4s_l : Nat → Int32) (fx4s_c : Nat → Int32) (fx4s_g : Nat → Int32) (fx4s_r : Nat → Int64) (fx4s_k : Nat → Int32) (fx4s_b : Nat → Int32) (x2s : Nat) (x2y : Nat) (x2q : Nat) (fa : Nat → Int32) (ou : Nat) (ha0 : fa 0 = 0) (ha1 : fa 1 = 0) (ha2 : fa 2 = 10) (ha3 : fa 3 = 10) (ha4 : fa 4 = 3) (h1 : ¬ xs 1 < 2) (h2 : ¬ 12 < xs 1) (H : Heap) (locs : List Loc) (hw : kW γ A [(x, .inr (10, [.ref x0, .ref x1, .ref x2, .ref x3, .ref x4, .ref x5, .ref x6, .ref x7, .ref x8, .ref x9, .ref x10])), (z, .inr (11, [.int 0, .int 0, .ref z2, .int 0, .int 0, .int 0, .int 0, .long 0, .int 0, .int 0, .ref z10, .ref z11, .ref z12, .ref z13, .ref z14, .ref z15, .ref z16, .ref z17, .ref z18, .ref z19, .int 0, .int 0, .ref z22, .ref z23, .ref z24, .ref z25, .ref z26, .ref z27, .ref z28, .ref z29, .ref z30, .ref z31, .ref z32, .ref z33, .int 0, .long 0, .ref z36, .ref z37, .ref z38, .ref z39, .ref z40, .ref z41, .ref z42, .ref z43, .ref z44, .ref z45, .ref z46, .ref z47, .ref z48, .int 0, .int 10, .int 0, .int 0, .int 0, .int 0, .ref z55, .ref z56, .int 0, .int 0, .ref z59, .ref z60, .ref z61, .int 0, .long 0])), (x9, .inr (0, [.ref x90, .ref x91, .ref x92, .ref x93, .ref x94, .ref x95, .ref x96, .ref x97, .int 0, .int 0, .int 10, .int 10, .int 3, .int 0, .int 0, .int 0, .int 0, .int 0, .int 0])), (x4, .inr (2, [.ref x4s, .int 0, .int 0, .int 0, .long 0])), (x4s, .inr (7, [.ref x4s_l, .ref x4s_c, .ref x4s_g, .ref x4s_r, .ref x4s_k, .ref x4s_b, .int 0, .int 0, .int 0])), (x4s_l, .inl (γ.2.1 0, 5, .inl fx4s_l)), (x4s_c, .inl (γ.2.1 0, 5, .inl fx4s_c)), (x4s_g, .inl (γ.2.1 0, 5, .inl fx4s_g)), (x4s_r, .inl (γ.2.1 1, 5, .inr (.inl fx4s_r))), (x4s_k, .inl (γ.2.1 0, 40, .inl fx4s_k)), (x4s_b, .inl (γ.2.1 0, 8, .inl fx4s_b)), (x2, .inr (3, [.ref x2s, .ref x2y, .ref x2q, .int 0, .int 0, .int 0])), (z10, .inl (γ.2.1 0, 10, .inl fa)), (z43, .inl (γ.2.1 0, 133, .inl (fun _ => 0))), (z44, .inl (γ.2.1 0, 133, .inl (fun _ => 0))), (z36, .inl (γ.2.1 0, 6, .inl (fun _ => 0)))] s H locs) (ls : Array Slot) (hl : lv_has ls 7 [(4, .int 0), (3, .ref ou), (2, .ref z), (1, .ref x), (0, .ref b)]) : W p l e room_1 s m [Value.ref b].toArray below meth c H locs 251 13922 (lw_Z below #[Value.ref b] s) (F0 m 1187 ls []) := by
  have hx := hC.1
  have hb := hC.2.1
  refine lv_aload_n hx hb dL_law_1187 rfl (lv_at hl 3 rfl) ?_
  refine lv_aload_n hx hb dL_law_1188 rfl (lv_at hl 4 rfl) ?_
  refine lv_iload hx hb dL_law_1189 (lv_at hl 0 rfl) ?_
  refine lv_iconst (v := 1) hx hb dL_law_1191 (by decide) ?_
  refine lv_iadd hx hb dL_law_1192 ?_
  refine lv_topi (fun x_2249 ex_2249 => ?_)
  obtain rfl : x_2249 = 1 := ex_2249.trans (by decide)
  refine va_sld hx hb hX hbl hbA hw.2.2 (k_in0 (by decide)) dL_law_1193 ?_
  refine lv_topi (fun x_2250 ex_2250 => ?_)
  obtain rfl : x_2250 = xs 1 := ex_2250
  refine k_V (wr := [(z, .inr (11, [.int 0, .int 0, .ref z2, .int 0, .int 0, .int 0, .int 0, .long 0, .int 0, .int 0, .ref z10, .ref z11, .ref z12, .ref z13, .ref z14, .ref z15, .ref z16, .ref z17, .ref z18, .ref z19, .int 0, .int 0, .ref z22, .ref z23, .ref z24, .ref z25, .ref z26, .ref z27, .ref z28, .ref z29, .ref z30, .ref z31, .ref z32, .ref z33, .int 0, .long 0, .ref z36, .ref z37, .ref z38, .ref z39, .ref z40, .ref z41, .ref z42, .ref z43, .ref z44, .ref z45, .ref z46, .ref z47, .ref z48, .int 0, .int 10, .int 0, .int 0, .int 0, .int 0, .ref z55, .ref z56, .int 0, .int 0, .ref z59, .ref z60, .ref z61, .int 0, .long 0])), (z10, .inl (γ.2.1 0, 10, .inl fa)), (z43, .inl (γ.2.1 0, 133, .inl (fun _ => 0))), (z44, .inl (γ.2.1 0, 133, .inl (fun _ => 0))), (z36, .inl (γ.2.1 0, 6, .inl (fun _ => 0)))]) 1 gw_857 gw_858 gw_859 gw_1 gw_860 hd_X11_other hC hw (c_X11_other γ l x x0 x1 x2 x3 x4 x5 x6 x7 x8 x9 x10 x90 x91 x92 x93 x94 x95 x96 x97 x4s x4s_l x4s_c x4s_g x4s_r x4s_k x4s_b fx4s_l fx4s_c fx4s_g fx4s_r fx4s_k fx4s_b x2s x2y x2q (xs 1)) ⟨by decide, by decide⟩ ⟨by decide, by decide⟩ hl.1 rfl 0 rfl rfl rfl (Nat.le_of_ble_eq_true rfl) [0, 2, 3, 4, 5, 6, 7, 8, 9, 10, 11] [1, 12, 13, 14, 15] rfl rfl rfl rfl (by decide) dL_law_1194 (fun r w1 H locs hq hw => ?_)
  obtain ⟨r9_2251, rfl, rfl, g_2252⟩ := hq
  have hw : kW γ A [(z, .inr (11, [.int 0, .int 0, .ref z2, .int 0, .int 0, .int 0, .int 0, .long 0, .int 0, .int 0, .ref z10, .ref z11, .ref z12, .ref z13, .ref z14, .ref z15, .ref z16, .ref z17, .ref z18, .ref z19, .int 0, .int 0, .ref z22, .ref z23, .ref z24, .ref z25, .ref z26, .ref z27, .ref z28, .ref z29, .ref z30, .ref z31, .ref z32, .ref z33, .int 0, .long 0, .ref z36, .ref z37, .ref z38, .ref z39, .ref z40, .ref z41, .ref z42, .ref z43, .ref z44, .ref z45, .ref z46, .ref z47, .ref z48, .int 0, .int 10, .int 0, .int 0, .int 0, .int 0, .ref z55, .ref z56, .int 0, .int 0, .ref z59, .ref z60, .ref z61, .int 0, .long 0])), (z10, .inl (γ.2.1 0, 10, .inl fa)), (z43, .inl (γ.2.1 0, 133, .inl (fun _ => 0))), (z44, .inl (γ.2.1 0, 133, .inl (fun _ => 0))), (z36, .inl (γ.2.1 0, 6, .inl (fun _ => 0)))] s H locs := hw
  refine W.eq (g2 := F0 m 1197 ls [.int r9_2251]) rfl ?_
  obtain rfl : r9_2251 = 0 := g_2252.trans (by unfold kother; rw [if_neg h1, if_neg h2])
  refine lv_aload_n hx hb dL_law_1197 rfl (lv_at hl 2 rfl) ?_
  refine lv_aload_n hx hb dL_law_1198 rfl (lv_at hl 4 rfl) ?_
  refine lv_iload hx hb dL_law_1199 (lv_at hl 0 rfl) ?_
  refine lv_iconst (v := 1) hx hb dL_law_1201 (by decide) ?_
  refine lv_iadd hx hb dL_law_1202 ?_
  refine lv_topi (fun x_2253 ex_2253 => ?_)
  obtain rfl : x_2253 = 1 := ex_2253.trans (by decide)
  refine va_sld hx hb hX hbl hbA hw.2.2 (k_in0 (by decide)) dL_law_1203 ?_
  refine lv_topi (fun x_2254 ex_2254 => ?_)
  obtain rfl : x_2254 = xs 1 := ex_2254
  refine k_V (wr := []) 1 gw_1672 gw_1673 gw_1674 gw_15 gw_1675 hd_X12_other hC hw (c_X12_other_t γ l z z2 z10 z11 z12 z13 z14 z15 z16 z17 z18 z19 z22 z23 z24 z25 z26 z27 z28 z29 z30 z31 z32 z33 z36 z37 z38 z39 z40 z41 z42 z43 z44 z45 z46 z47 z48 z55 z56 z59 z60 z61 fa (xs 1) (fun _ => 0) (fun _ => 0) ha0 ha1 ha2 ha3 ha4 h1 h2) ⟨by decide, by decide⟩ ⟨by decide, by decide⟩ hl.1 rfl 0 rfl rfl rfl (Nat.le_of_ble_eq_true rfl) [0, 1, 2, 3, 4] [] rfl rfl rfl rfl (by decide) dL_law_1204 (fun r w1 H locs hq hw => ?_)
  obtain ⟨rfl, rfl⟩ := hq
  have hw : kW γ A [] s H locs := hw
  refine W.eq (g2 := F0 m 1207 ls [.int 0, .int 0]) rfl ?_
  refine lv_icmp_eq (tgt := 1370) hx hb dL_law_1207 (by decide) (fun _ => ?_) (fun h => absurd (by decide) h)
  exact law_end hC hr hlocks hX hbl hbA hAs hl9 _ _ (kW.sub hw [] rfl rfl) (by decide) (by decide) _ (lv_sub hl [0, 4] rfl)

set_option maxHeartbeats 4000000 in
set_option maxRecDepth 100000 in
theorem lc_20_n {γ : kΓ} {l : Launch} {p : Program} {e : Env} {s : State} {m : MethodId} {below : List Frame} {meth : Method} {c : Code} {A : Nat → Prop} {b : Nat} {xs : Nat → Int32} (hC : kC γ p s m [Value.ref b].toArray c code 7 RL A) (hr : meth.sig.returnType = ret) (hlocks : meth.locks = false) (hX : va_X b 7 xs s s.heap) (hbl : b < s.heap.size) (hbA : ¬ A b) (hAs : ∀ q, A q → s.heap.size ≤ q) (hl9 : l.stackTraces = false) (x : Nat) (x0 : Nat) (x1 : Nat) (x2 : Nat) (x3 : Nat) (x4 : Nat) (x5 : Nat) (x6 : Nat) (x7 : Nat) (x8 : Nat) (x9 : Nat) (x10 : Nat) (z : Nat) (z2 : Nat) (z10 : Nat) (z11 : Nat) (z12 : Nat) (z13 : Nat) (z14 : Nat) (z15 : Nat) (z16 : Nat) (z17 : Nat) (z18 : Nat) (z19 : Nat) (z22 : Nat) (z23 : Nat) (z24 : Nat) (z25 : Nat) (z26 : Nat) (z27 : Nat) (z28 : Nat) (z29 : Nat) (z30 : Nat) (z31 : Nat) (z32 : Nat) (z33 : Nat) (z36 : Nat) (z37 : Nat) (z38 : Nat) (z39 : Nat) (z40 : Nat) (z41 : Nat) (z42 : Nat) (z43 : Nat) (z44 : Nat) (z45 : Nat) (z46 : Nat) (z47 : Nat) (z48 : Nat) (z55 : Nat) (z56 : Nat) (z59 : Nat) (z60 : Nat) (z61 : Nat) (x90 : Nat) (x91 : Nat) (x92 : Nat) (x93 : Nat) (x94 : Nat) (x95 : Nat) (x96 : Nat) (x97 : Nat) (pc : Nat) (pt : Nat) (pd : Nat) (fc : Nat → Int32) (ft : Nat → Int32) (x2s : Nat) (x2y : Nat) (x2q : Nat) (fa : Nat → Int32) (ou : Nat) (ha0 : fa 0 = 0) (ha1 : fa 1 = 0) (ha2 : fa 2 = 10) (ha3 : fa 3 = 10) (ha4 : fa 4 = 3) (hv : xs 1 = -1) (H : Heap) (locs : List Loc) (hw : kW γ A [(x, .inr (10, [.ref x0, .ref x1, .ref x2, .ref x3, .ref x4, .ref x5, .ref x6, .ref x7, .ref x8, .ref x9, .ref x10])), (z, .inr (11, [.int 0, .int 0, .ref z2, .int 0, .int 0, .int 0, .int 0, .long 0, .int 0, .int 0, .ref z10, .ref z11, .ref z12, .ref z13, .ref z14, .ref z15, .ref z16, .ref z17, .ref z18, .ref z19, .int 0, .int 0, .ref z22, .ref z23, .ref z24, .ref z25, .ref z26, .ref z27, .ref z28, .ref z29, .ref z30, .ref z31, .ref z32, .ref z33, .int 0, .long 0, .ref z36, .ref z37, .ref z38, .ref z39, .ref z40, .ref z41, .ref z42, .ref z43, .ref z44, .ref z45, .ref z46, .ref z47, .ref z48, .int 0, .int 10, .int 0, .int 0, .int 0, .int 0, .ref z55, .ref z56, .int 0, .int 0, .ref z59, .ref z60, .ref z61, .int 0, .long 0])), (x9, .inr (0, [.ref x90, .ref x91, .ref x92, .ref x93, .ref x94, .ref x95, .ref x96, .ref x97, .int 0, .int 0, .int 10, .int 10, .int 3, .int 0, .int 0, .int 0, .int 0, .int 0, .int 0])), (x7, .inr (4, [.ref pc, .ref pt, .ref pd, .int 0, .int 0])), (pc, .inl (γ.2.1 0, 5, .inl fc)), (pt, .inl (γ.2.1 0, 5, .inl ft)), (x2, .inr (3, [.ref x2s, .ref x2y, .ref x2q, .int 0, .int 0, .int 0])), (z10, .inl (γ.2.1 0, 10, .inl fa)), (z60, .inl (γ.2.1 0, 5, .inl (fun _ => 0))), (z61, .inl (γ.2.1 0, 5, .inl (fun _ => 0)))] s H locs) (ls : Array Slot) (hl : lv_has ls 7 [(4, .int 0), (3, .ref ou), (2, .ref z), (1, .ref x), (0, .ref b)]) : W p l e room_1 s m [Value.ref b].toArray below meth c H locs 251 13922 (lw_Z below #[Value.ref b] s) (F0 m 916 ls []) := by
  have hx := hC.1
  have hb := hC.2.1
  refine lv_aload_n hx hb dL_law_916 rfl (lv_at hl 3 rfl) ?_
  refine lv_aload_n hx hb dL_law_917 rfl (lv_at hl 4 rfl) ?_
  refine lv_iload hx hb dL_law_918 (lv_at hl 0 rfl) ?_
  refine lv_iconst (v := 1) hx hb dL_law_920 (by decide) ?_
  refine lv_iadd hx hb dL_law_921 ?_
  refine lv_topi (fun x_2255 ex_2255 => ?_)
  obtain rfl : x_2255 = 1 := ex_2255.trans (by decide)
  refine va_sld hx hb hX hbl hbA hw.2.2 (k_in0 (by decide)) dL_law_922 ?_
  refine lv_topi (fun x_2256 ex_2256 => ?_)
  obtain rfl : x_2256 = (-1) := (show x_2256 = xs 1 from ex_2256).trans hv
  refine k_V (wr := [(z, .inr (11, [.int 0, .int 0, .ref z2, .int 0, .int 0, .int 0, .int 0, .long 0, .int 0, .int 0, .ref z10, .ref z11, .ref z12, .ref z13, .ref z14, .ref z15, .ref z16, .ref z17, .ref z18, .ref z19, .int 0, .int 0, .ref z22, .ref z23, .ref z24, .ref z25, .ref z26, .ref z27, .ref z28, .ref z29, .ref z30, .ref z31, .ref z32, .ref z33, .int 0, .long 0, .ref z36, .ref z37, .ref z38, .ref z39, .ref z40, .ref z41, .ref z42, .ref z43, .ref z44, .ref z45, .ref z46, .ref z47, .ref z48, .int 0, .int 10, .int 0, .int 0, .int 0, .int 0, .ref z55, .ref z56, .int 0, .int 0, .ref z59, .ref z60, .ref z61, .int 0, .long 0])), (z10, .inl (γ.2.1 0, 10, .inl fa)), (z60, .inl (γ.2.1 0, 5, .inl (fun _ => 0))), (z61, .inl (γ.2.1 0, 5, .inl (fun _ => 0)))]) 1 gw_983 gw_984 gw_985 gw_1 gw_986 hd_X11_match hC hw (c_X11_match_n γ l x x0 x1 x2 x3 x4 x5 x6 x7 x8 x9 x10 x90 x91 x92 x93 x94 x95 x96 x97 pc pt pd fc ft x2s x2y x2q) ⟨by decide, by decide⟩ ⟨by decide, by decide⟩ hl.1 rfl 0 rfl rfl rfl (Nat.le_of_ble_eq_true rfl) [0, 2, 3, 4, 5, 6] [1, 7, 8, 9] rfl rfl rfl rfl (by decide) dL_law_923 (fun r w1 H locs hq hw => ?_)
  obtain ⟨rfl, rfl⟩ := hq
  have hw : kW γ A [(z, .inr (11, [.int 0, .int 0, .ref z2, .int 0, .int 0, .int 0, .int 0, .long 0, .int 0, .int 0, .ref z10, .ref z11, .ref z12, .ref z13, .ref z14, .ref z15, .ref z16, .ref z17, .ref z18, .ref z19, .int 0, .int 0, .ref z22, .ref z23, .ref z24, .ref z25, .ref z26, .ref z27, .ref z28, .ref z29, .ref z30, .ref z31, .ref z32, .ref z33, .int 0, .long 0, .ref z36, .ref z37, .ref z38, .ref z39, .ref z40, .ref z41, .ref z42, .ref z43, .ref z44, .ref z45, .ref z46, .ref z47, .ref z48, .int 0, .int 10, .int 0, .int 0, .int 0, .int 0, .ref z55, .ref z56, .int 0, .int 0, .ref z59, .ref z60, .ref z61, .int 0, .long 0])), (z10, .inl (γ.2.1 0, 10, .inl fa)), (z60, .inl (γ.2.1 0, 5, .inl (fun _ => 0))), (z61, .inl (γ.2.1 0, 5, .inl (fun _ => 0)))] s H locs := hw
  refine W.eq (g2 := F0 m 926 ls [.int 0]) rfl ?_
  refine lv_aload_n hx hb dL_law_926 rfl (lv_at hl 2 rfl) ?_
  refine lv_aload_n hx hb dL_law_927 rfl (lv_at hl 4 rfl) ?_
  refine lv_iload hx hb dL_law_928 (lv_at hl 0 rfl) ?_
  refine lv_iconst (v := 1) hx hb dL_law_930 (by decide) ?_
  refine lv_iadd hx hb dL_law_931 ?_
  refine lv_topi (fun x_2257 ex_2257 => ?_)
  obtain rfl : x_2257 = 1 := ex_2257.trans (by decide)
  refine va_sld hx hb hX hbl hbA hw.2.2 (k_in0 (by decide)) dL_law_932 ?_
  refine lv_topi (fun x_2258 ex_2258 => ?_)
  obtain rfl : x_2258 = (-1) := (show x_2258 = xs 1 from ex_2258).trans hv
  refine k_V (wr := []) 1 gw_1748 gw_1749 gw_1750 gw_15 gw_1751 hd_X12_match hC hw (c_X12_match_n γ l z z2 z10 z11 z12 z13 z14 z15 z16 z17 z18 z19 z22 z23 z24 z25 z26 z27 z28 z29 z30 z31 z32 z33 z36 z37 z38 z39 z40 z41 z42 z43 z44 z45 z46 z47 z48 z55 z56 z59 z60 z61 fa (fun _ => 0) (fun _ => 0) ha0 ha1 ha2 ha3 ha4) ⟨by decide, by decide⟩ ⟨by decide, by decide⟩ hl.1 rfl 0 rfl rfl rfl (Nat.le_of_ble_eq_true rfl) [0, 1, 2, 3] [] rfl rfl rfl rfl (by decide) dL_law_933 (fun r w1 H locs hq hw => ?_)
  obtain ⟨rfl, rfl⟩ := hq
  have hw : kW γ A [] s H locs := hw
  refine W.eq (g2 := F0 m 936 ls [.int 0, .int 0]) rfl ?_
  refine lv_icmp_eq (tgt := 1370) hx hb dL_law_936 (by decide) (fun _ => ?_) (fun h => absurd (by decide) h)
  exact law_end hC hr hlocks hX hbl hbA hAs hl9 _ _ (kW.sub hw [] rfl rfl) (by decide) (by decide) _ (lv_sub hl [0, 4] rfl)


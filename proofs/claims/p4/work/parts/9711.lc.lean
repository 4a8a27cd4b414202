set_option maxHeartbeats 4000000 in
set_option maxRecDepth 100000 in
theorem lc_8 {γ : kΓ} {l : Launch} {p : Program} {e : Env} {s : State} {m : MethodId} {below : List Frame} {meth : Method} {c : Code} {A : Nat → Prop} {Q : State → Prop} {b L : Nat} {xs : Nat → Int32} {x z ou : Nat} {ax am : List Nat} {i : Int32} {cs ss : Nat} (hC : kC γ p s m [Value.ref b].toArray c code 7 RL A) (hX : va_X b L xs s s.heap) (hbl : b < s.heap.size) (hbA : ¬ A b) (hl9 : l.stackTraces = false) (hax : ax[0]? = some x) (ham : am[0]? = some z) (hi : ∀ j : Int32, 0 ≤ j → j ≤ 6 → vp_in (i + j) L) (hcs : cs + 1 ≤ 601024) (hss : ss + 6 ≤ 7293034)
    (hk : ∀ (H : Heap) (locs : List Loc) (ls : Array Slot), lIv γ A ax am ou s H locs → lv_has ls 7 [(4, .int i), (0, .ref b), (1, .ref x), (2, .ref z), (3, .ref ou)] → W p l e room_1 s m [Value.ref b].toArray below meth c H locs (cs + 1) (ss + 6) Q (F0 m 1258 ls []))
    {H : Heap} {locs : List Loc} {ls : Array Slot} (hI : lIv γ A ax am ou s H locs) (hl : lv_has ls 7 [(4, .int i), (0, .ref b), (1, .ref x), (2, .ref z), (3, .ref ou)]) : W p l e room_1 s m [Value.ref b].toArray below meth c H locs cs ss Q (F0 m 530 ls []) := by
  have hx := hC.1
  have hb := hC.2.1
  obtain ⟨wx, wm, fo, hw, hHx, hHm, hMx, hRl, S, S', hTc, hTm, hTr⟩ := hI
  refine lv_aload_n hx hb dL_law_530 rfl (lv_at hl 2 rfl) ?_
  refine lv_aload_n hx hb dL_law_531 rfl (lv_at hl 1 rfl) ?_
  refine lv_iload hx hb dL_law_532 (lv_at hl 0 rfl) ?_
  refine lv_iconst (v := 1) hx hb dL_law_534 (by decide) ?_
  refine lv_iadd hx hb dL_law_535 ?_
  refine va_sld hx hb hX hbl hbA hw.2.2 (hi 1 (by decide) (by decide)) dL_law_536 ?_
  refine lv_topi (fun v1 ev1 => ?_)
  clear ev1
  refine lv_aload_n hx hb dL_law_537 rfl (lv_at hl 1 rfl) ?_
  refine lv_iload hx hb dL_law_538 (lv_at hl 0 rfl) ?_
  refine lv_iconst (v := 2) hx hb dL_law_540 (by decide) ?_
  refine lv_iadd hx hb dL_law_541 ?_
  refine va_sld hx hb hX hbl hbA hw.2.2 (hi 2 (by decide) (by decide)) dL_law_542 ?_
  refine lv_topi (fun v2 ev2 => ?_)
  clear ev2
  obtain ⟨fsx, hfx⟩ := c_recv hHx hax
  obtain ⟨y9, hy9, hs9⟩ := cs_164 γ l
  cases hy9
  refine l_V 2 gw_827 gw_828 gw_829 gw_1 gw_830 hd_X11_pool hC hw (hs9 ax wx [.ref x, .int v1, .int v2] ⟨hHx, trivial, ⟨v_ref rfl hax, v_int _, v_int _, trivial⟩, fun f hf => (by cases hf), fun f hf => (by cases hf)⟩) ⟨by decide, by decide⟩ ⟨by show cs + 0 ≤ 601024; omega, by show ss + 0 ≤ 7293034; omega⟩ hl.1 rfl hfx rfl rfl (Nat.le_of_ble_eq_true rfl) dL_law_543 (fun r w1 H locs hq hw => ?_)
  obtain ⟨v9, rfl⟩ := l_ri (c := cn_164) rfl hq
  have hkx := q_kp2 hHx hq.1 hq.2.2.1 (q := 1) (g := 1) (k := 1) rfl (by decide +kernel)
  have hkx2 : ∀ k, qsl2 w1 2 k = qsl2 wx 2 k := fun k => q_kp2 hHx hq.1 hq.2.2.1 (q := 2) (g := 2) (k := k) rfl (qm_no (by decide +kernel) k)
  replace hTc := cTo_keep hHx hq.1 hq.2.2.1 (by decide +kernel) hTc
  replace hHx := hq.1
  clear hq hs9 hfx
  refine W.eq (g2 := F0 m 546 ls [.int v9]) rfl ?_
  refine W.widen (k := cs) (n := ss) (Nat.le_refl _) (Nat.le_refl _) ?_
  refine lv_pop hx hb dL_law_546 rfl ?_
  clear v9
  have hw := hw.perm b_sw
  refine lv_aload_n hx hb dL_law_547 rfl (lv_at hl 3 rfl) ?_
  refine lv_aload_n hx hb dL_law_548 rfl (lv_at hl 1 rfl) ?_
  refine lv_iload hx hb dL_law_549 (lv_at hl 0 rfl) ?_
  refine lv_iconst (v := 1) hx hb dL_law_551 (by decide) ?_
  refine lv_iadd hx hb dL_law_552 ?_
  refine va_sld hx hb hX hbl hbA hw.2.2 (hi 1 (by decide) (by decide)) dL_law_553 ?_
  refine lv_topi (fun v3 ev3 => ?_)
  clear ev3
  refine lv_aload_n hx hb dL_law_554 rfl (lv_at hl 1 rfl) ?_
  refine lv_iload hx hb dL_law_555 (lv_at hl 0 rfl) ?_
  refine lv_iconst (v := 2) hx hb dL_law_557 (by decide) ?_
  refine lv_iadd hx hb dL_law_558 ?_
  refine va_sld hx hb hX hbl hbA hw.2.2 (hi 2 (by decide) (by decide)) dL_law_559 ?_
  refine lv_topi (fun v4 ev4 => ?_)
  clear ev4
  obtain ⟨fsz, hfz⟩ := m_recv hHm ham
  obtain ⟨y8, hy8, hs8⟩ := m_up rfl (ms_512 γ l)
  cases hy8
  refine l_V 2 gw_1636 gw_1637 gw_1638 gw_15 gw_1639 hd_X12_pool hC hw (hs8 am wm [.ref z, .int v3, .int v4] ⟨hHm, hMx, ⟨v_ref rfl ham, v_int _, v_int _, trivial⟩, fun f hf => (by cases hf), fun f hf => (by cases hf)⟩) ⟨by decide, by decide⟩ ⟨by show cs + 0 ≤ 601024; omega, by show ss + 0 ≤ 7293034; omega⟩ hl.1 rfl hfz rfl rfl (Nat.le_of_ble_eq_true rfl) dL_law_560 (fun r w2 H locs hq hw => ?_)
  obtain ⟨v8, rfl⟩ := l_ri (c := mn_512) rfl hq
  have hkm := q_kp2 hHm hq.1 hq.2.2.1 (q := 0) (g := 0) (k := 1) rfl (by decide +kernel)
  have hkm2 : ∀ k, qsl2 w2 1 k = qsl2 wm 1 k := fun k => q_kp2 hHm hq.1 hq.2.2.1 (q := 1) (g := 1) (k := k) rfl (qm_no (by decide +kernel) k)
  replace hTm := mTo_keep hHm hq.1 hq.2.2.1 (by decide +kernel) hTm
  replace hHm := hq.1
  replace hMx := hq.2.1
  clear hq hs8 hfz
  refine W.eq (g2 := F0 m 563 ls [.int v8]) rfl ?_
  have hw := hw.perm b_sw
  refine lv_pop hx hb dL_law_563 rfl ?_
  refine lv_goto (tgt := 1258) hx hb dL_law_564 (by decide) ?_
  exact W.widen (by show cs + 0 ≤ cs + 1; omega) (by show ss + 0 ≤ ss + 6; omega) (hk _ _ _ ⟨w1, w2, fo, hw, hHx, hHm, hMx, (lR_keep hRl hkx hkx2 hkm hkm2), S, S', hTc, hTm, hTr⟩ hl)

set_option maxHeartbeats 4000000 in
set_option maxRecDepth 100000 in
theorem lc_9 {γ : kΓ} {l : Launch} {p : Program} {e : Env} {s : State} {m : MethodId} {below : List Frame} {meth : Method} {c : Code} {A : Nat → Prop} {Q : State → Prop} {b L : Nat} {xs : Nat → Int32} {x z ou : Nat} {ax am : List Nat} {i : Int32} {cs ss : Nat} (hC : kC γ p s m [Value.ref b].toArray c code 7 RL A) (hX : va_X b L xs s s.heap) (hbl : b < s.heap.size) (hbA : ¬ A b) (hl9 : l.stackTraces = false) (hax : ax[0]? = some x) (ham : am[0]? = some z) (hi : ∀ j : Int32, 0 ≤ j → j ≤ 6 → vp_in (i + j) L) (hcs : cs + 1 ≤ 601024) (hss : ss + 6 ≤ 7293034)
    (hk : ∀ (H : Heap) (locs : List Loc) (ls : Array Slot), lIv γ A ax am ou s H locs → lv_has ls 7 [(4, .int i), (0, .ref b), (1, .ref x), (2, .ref z), (3, .ref ou)] → W p l e room_1 s m [Value.ref b].toArray below meth c H locs (cs + 1) (ss + 6) Q (F0 m 1258 ls []))
    {H : Heap} {locs : List Loc} {ls : Array Slot} (hI : lIv γ A ax am ou s H locs) (hl : lv_has ls 7 [(4, .int i), (0, .ref b), (1, .ref x), (2, .ref z), (3, .ref ou)]) : W p l e room_1 s m [Value.ref b].toArray below meth c H locs cs ss Q (F0 m 567 ls []) := by
  have hx := hC.1
  have hb := hC.2.1
  obtain ⟨wx, wm, fo, hw, hHx, hHm, hMx, hRl, S, S', hTc, hTm, hTr⟩ := hI
  refine lv_aload_n hx hb dL_law_567 rfl (lv_at hl 2 rfl) ?_
  obtain ⟨fsx, hfx⟩ := c_recv hHx hax
  obtain ⟨y9, hy9, hs9⟩ := cs_173 γ l
  cases hy9
  refine l_V 0 gw_839 gw_840 gw_841 gw_1 gw_842 hd_X11_undo hC hw (hs9 ax wx [.ref x] ⟨hHx, trivial, ⟨v_ref rfl hax, trivial⟩, fun f hf => (by cases hf), fun f hf => (by cases hf)⟩) ⟨by decide, by decide⟩ ⟨by show cs + 0 ≤ 601024; omega, by show ss + 0 ≤ 7293034; omega⟩ hl.1 rfl hfx rfl rfl (Nat.le_of_ble_eq_true rfl) dL_law_568 (fun r w1 H locs hq hw => ?_)
  obtain ⟨v9, rfl⟩ := l_ri (c := cn_173) rfl hq
  have hkx := q_kp2 hHx hq.1 hq.2.2.1 (q := 1) (g := 1) (k := 1) rfl (by decide +kernel)
  have hkx2 : ∀ k, qsl2 w1 2 k = qsl2 wx 2 k := fun k => q_kp2 hHx hq.1 hq.2.2.1 (q := 2) (g := 2) (k := k) rfl (qm_no (by decide +kernel) k)
  replace hTc := cTo_keep hHx hq.1 hq.2.2.1 (by decide +kernel) hTc
  replace hHx := hq.1
  clear hq hs9 hfx
  refine W.eq (g2 := F0 m 571 ls [.int v9]) rfl ?_
  refine W.widen (k := cs) (n := ss) (Nat.le_refl _) (Nat.le_refl _) ?_
  refine lv_pop hx hb dL_law_571 rfl ?_
  clear v9
  have hw := hw.perm b_sw
  refine lv_aload_n hx hb dL_law_572 rfl (lv_at hl 3 rfl) ?_
  obtain ⟨fsz, hfz⟩ := m_recv hHm ham
  obtain ⟨y8, hy8, hs8⟩ := m_up rfl (ms_525 γ l)
  cases hy8
  refine l_V 0 gw_1648 gw_1649 gw_1650 gw_15 gw_1651 hd_X12_undo hC hw (hs8 am wm [.ref z] ⟨hHm, hMx, ⟨v_ref rfl ham, trivial⟩, fun f hf => (by cases hf), fun f hf => (by cases hf)⟩) ⟨by decide, by decide⟩ ⟨by show cs + 0 ≤ 601024; omega, by show ss + 0 ≤ 7293034; omega⟩ hl.1 rfl hfz rfl rfl (Nat.le_of_ble_eq_true rfl) dL_law_573 (fun r w2 H locs hq hw => ?_)
  obtain ⟨v8, rfl⟩ := l_ri (c := mn_525) rfl hq
  have hkm := q_kp2 hHm hq.1 hq.2.2.1 (q := 0) (g := 0) (k := 1) rfl (by decide +kernel)
  have hkm2 : ∀ k, qsl2 w2 1 k = qsl2 wm 1 k := fun k => q_kp2 hHm hq.1 hq.2.2.1 (q := 1) (g := 1) (k := k) rfl (qm_no (by decide +kernel) k)
  replace hTm := mTo_keep hHm hq.1 hq.2.2.1 (by decide +kernel) hTm
  replace hHm := hq.1
  replace hMx := hq.2.1
  clear hq hs8 hfz
  refine W.eq (g2 := F0 m 576 ls [.int v8]) rfl ?_
  have hw := hw.perm b_sw
  refine lv_pop hx hb dL_law_576 rfl ?_
  refine lv_goto (tgt := 1258) hx hb dL_law_577 (by decide) ?_
  exact W.widen (by show cs + 0 ≤ cs + 1; omega) (by show ss + 0 ≤ ss + 6; omega) (hk _ _ _ ⟨w1, w2, fo, hw, hHx, hHm, hMx, (lR_keep hRl hkx hkx2 hkm hkm2), S, S', hTc, hTm, hTr⟩ hl)

set_option maxHeartbeats 4000000 in
set_option maxRecDepth 100000 in
theorem lc_10 {γ : kΓ} {l : Launch} {p : Program} {e : Env} {s : State} {m : MethodId} {below : List Frame} {meth : Method} {c : Code} {A : Nat → Prop} {Q : State → Prop} {b L : Nat} {xs : Nat → Int32} {x z ou : Nat} {ax am : List Nat} {i : Int32} {cs ss : Nat} (hC : kC γ p s m [Value.ref b].toArray c code 7 RL A) (hX : va_X b L xs s s.heap) (hbl : b < s.heap.size) (hbA : ¬ A b) (hl9 : l.stackTraces = false) (hax : ax[0]? = some x) (ham : am[0]? = some z) (hi : ∀ j : Int32, 0 ≤ j → j ≤ 6 → vp_in (i + j) L) (hcs : cs + 1 ≤ 601024) (hss : ss + 6 ≤ 7293034)
    (hk : ∀ (H : Heap) (locs : List Loc) (ls : Array Slot), lIv γ A ax am ou s H locs → lv_has ls 7 [(4, .int i), (0, .ref b), (1, .ref x), (2, .ref z), (3, .ref ou)] → W p l e room_1 s m [Value.ref b].toArray below meth c H locs (cs + 1) (ss + 6) Q (F0 m 1258 ls []))
    {H : Heap} {locs : List Loc} {ls : Array Slot} (hI : lIv γ A ax am ou s H locs) (hl : lv_has ls 7 [(4, .int i), (0, .ref b), (1, .ref x), (2, .ref z), (3, .ref ou)]) : W p l e room_1 s m [Value.ref b].toArray below meth c H locs cs ss Q (F0 m 580 ls []) := by
  have hx := hC.1
  have hb := hC.2.1
  obtain ⟨wx, wm, fo, hw, hHx, hHm, hMx, hRl, S, S', hTc, hTm, hTr⟩ := hI
  refine lv_aload_n hx hb dL_law_580 rfl (lv_at hl 2 rfl) ?_
  refine lv_aload_n hx hb dL_law_581 rfl (lv_at hl 1 rfl) ?_
  refine lv_iload hx hb dL_law_582 (lv_at hl 0 rfl) ?_
  refine lv_iconst (v := 1) hx hb dL_law_584 (by decide) ?_
  refine lv_iadd hx hb dL_law_585 ?_
  refine va_sld hx hb hX hbl hbA hw.2.2 (hi 1 (by decide) (by decide)) dL_law_586 ?_
  refine lv_topi (fun v1 ev1 => ?_)
  clear ev1
  refine lv_aload_n hx hb dL_law_587 rfl (lv_at hl 4 rfl) ?_
  have hw := hw.perm b_sw2
  refine l_SW 3 gw_1021 gw_1022 gw_0 gw_1023 hd_L_judged hC hw (h_judged γ l hl9 v1 hHx hax) ⟨by decide, by decide⟩ ⟨by show cs + 1 ≤ 601024; omega, by show ss + 6 ≤ 7293034; omega⟩ hl.1 rfl rfl (Nat.le_of_ble_eq_true rfl) dL_law_588 (fun r w1 H locs hq hw => ?_)
  obtain ⟨k9, wx1, fo1, rfl, rfl, hHx9, hKx⟩ := hq
  have hkx := q_kp2 hHx hHx9 hKx (q := 1) (g := 1) (k := 1) rfl (by decide +kernel)
  have hkx2 : ∀ k, qsl2 wx1 2 k = qsl2 wx 2 k := fun k => q_kp2 hHx hHx9 hKx (q := 2) (g := 2) (k := k) rfl (qm_no (by decide +kernel) k)
  replace hTc := cTo_keep hHx hHx9 hKx (by decide +kernel) hTc
  replace hHx := hHx9
  clear hHx9 hKx
  refine W.eq (g2 := F0 m 591 ls [.int k9]) rfl ?_
  refine W.widen (k := cs + 1) (n := ss + 6) (Nat.le_refl _) (Nat.le_refl _) ?_
  refine lv_istore (lv' := [(5, .int k9), (4, .int i), (0, .ref b), (1, .ref x), (2, .ref z), (3, .ref ou)]) hx hb dL_law_591 hl (by decide) rfl (fun ls hl => ?_)
  have hw := hw.perm b_sw3
  have hw := hw.perm b_sw
  refine lv_aload_n hx hb dL_law_593 rfl (lv_at hl 4 rfl) ?_
  refine lv_aload_n hx hb dL_law_594 rfl (lv_at hl 2 rfl) ?_
  refine lv_iload hx hb dL_law_595 (lv_at hl 1 rfl) ?_
  refine lv_iconst (v := 1) hx hb dL_law_597 (by decide) ?_
  refine lv_iadd hx hb dL_law_598 ?_
  refine va_sld hx hb hX hbl hbA hw.2.2 (hi 1 (by decide) (by decide)) dL_law_599 ?_
  refine lv_topi (fun v2 ev2 => ?_)
  clear ev2
  obtain ⟨fsz, hfz⟩ := m_recv hHm ham
  obtain ⟨y8, hy8, hs8⟩ := mg_judged γ l
  cases hy8
  refine l_V 1 gw_1652 gw_1653 gw_1654 gw_15 gw_1655 hd_X12_judged hC hw (hs8 am wm [.ref z, .int v2] ⟨hHm, hMx, ⟨v_ref rfl ham, v_int _, trivial⟩, fun f hf => (by cases hf), fun f hf => (by cases hf)⟩) ⟨by decide, by decide⟩ ⟨by show cs + 1 + 0 ≤ 601024; omega, by show ss + 6 + 0 ≤ 7293034; omega⟩ hl.1 rfl hfz rfl rfl (Nat.le_of_ble_eq_true rfl) dL_law_600 (fun r w2 H locs hq hw => ?_)
  obtain ⟨v8, rfl⟩ := l_ri (c := (jG 78)) rfl hq
  have hkm := q_kp2 hHm hq.1 hq.2.2.1 (q := 0) (g := 0) (k := 1) rfl (by decide +kernel)
  have hkm2 : ∀ k, qsl2 w2 1 k = qsl2 wm 1 k := fun k => q_kp2 hHm hq.1 hq.2.2.1 (q := 1) (g := 1) (k := k) rfl (qm_no (by decide +kernel) k)
  replace hTm := mTo_keep hHm hq.1 hq.2.2.1 (by decide +kernel) hTm
  replace hHm := hq.1
  replace hMx := hq.2.1
  clear hq hs8 hfz
  refine W.eq (g2 := F0 m 603 ls [.int v8]) rfl ?_
  have hw := hw.perm b_sw
  refine lv_istore (lv' := [(6, .int v8), (5, .int k9), (4, .int i), (0, .ref b), (1, .ref x), (2, .ref z), (3, .ref ou)]) hx hb dL_law_603 hl (by decide) rfl (fun ls hl => ?_)
  refine lv_goto (tgt := 1258) hx hb dL_law_605 (by decide) ?_
  exact W.widen (by show cs + 1 + 0 ≤ cs + 1; omega) (by show ss + 6 + 0 ≤ ss + 6; omega) (hk _ _ _ ⟨wx1, w2, fo1, hw, hHx, hHm, hMx, (lR_keep hRl hkx hkx2 hkm hkm2), S, S', hTc, hTm, hTr⟩ (lv_sub hl [2, 3, 4, 5, 6] rfl))

set_option maxHeartbeats 4000000 in
set_option maxRecDepth 100000 in
theorem lc_11 {γ : kΓ} {l : Launch} {p : Program} {e : Env} {s : State} {m : MethodId} {below : List Frame} {meth : Method} {c : Code} {A : Nat → Prop} {Q : State → Prop} {b L : Nat} {xs : Nat → Int32} {x z ou : Nat} {ax am : List Nat} {i : Int32} {cs ss : Nat} (hC : kC γ p s m [Value.ref b].toArray c code 7 RL A) (hX : va_X b L xs s s.heap) (hbl : b < s.heap.size) (hbA : ¬ A b) (hl9 : l.stackTraces = false) (hax : ax[0]? = some x) (ham : am[0]? = some z) (hi : ∀ j : Int32, 0 ≤ j → j ≤ 6 → vp_in (i + j) L) (hcs : cs + 1 ≤ 601024) (hss : ss + 6 ≤ 7293034)
    (hk : ∀ (H : Heap) (locs : List Loc) (ls : Array Slot), lIv γ A ax am ou s H locs → lv_has ls 7 [(4, .int i), (0, .ref b), (1, .ref x), (2, .ref z), (3, .ref ou)] → W p l e room_1 s m [Value.ref b].toArray below meth c H locs (cs + 1) (ss + 6) Q (F0 m 1258 ls []))
    {H : Heap} {locs : List Loc} {ls : Array Slot} (hI : lIv γ A ax am ou s H locs) (hl : lv_has ls 7 [(4, .int i), (0, .ref b), (1, .ref x), (2, .ref z), (3, .ref ou)]) : W p l e room_1 s m [Value.ref b].toArray below meth c H locs cs ss Q (F0 m 608 ls []) := by
  have hx := hC.1
  have hb := hC.2.1
  obtain ⟨wx, wm, fo, hw, hHx, hHm, hMx, hRl, S, S', hTc, hTm, hTr⟩ := hI
  refine lv_aload_n hx hb dL_law_608 rfl (lv_at hl 2 rfl) ?_
  refine lv_aload_n hx hb dL_law_609 rfl (lv_at hl 1 rfl) ?_
  refine lv_iload hx hb dL_law_610 (lv_at hl 0 rfl) ?_
  refine lv_iconst (v := 1) hx hb dL_law_612 (by decide) ?_
  refine lv_iadd hx hb dL_law_613 ?_
  refine va_sld hx hb hX hbl hbA hw.2.2 (hi 1 (by decide) (by decide)) dL_law_614 ?_
  refine lv_topi (fun v1 ev1 => ?_)
  clear ev1
  refine lv_aload_n hx hb dL_law_615 rfl (lv_at hl 1 rfl) ?_
  refine lv_iload hx hb dL_law_616 (lv_at hl 0 rfl) ?_
  refine lv_iconst (v := 2) hx hb dL_law_618 (by decide) ?_
  refine lv_iadd hx hb dL_law_619 ?_
  refine va_sld hx hb hX hbl hbA hw.2.2 (hi 2 (by decide) (by decide)) dL_law_620 ?_
  refine lv_topi (fun v2 ev2 => ?_)
  clear ev2
  refine lv_aload_n hx hb dL_law_621 rfl (lv_at hl 1 rfl) ?_
  refine lv_iload hx hb dL_law_622 (lv_at hl 0 rfl) ?_
  refine lv_iconst (v := 3) hx hb dL_law_624 (by decide) ?_
  refine lv_iadd hx hb dL_law_625 ?_
  refine va_sld hx hb hX hbl hbA hw.2.2 (hi 3 (by decide) (by decide)) dL_law_626 ?_
  refine lv_topi (fun v3 ev3 => ?_)
  clear ev3
  refine lv_aload_n hx hb dL_law_627 rfl (lv_at hl 4 rfl) ?_
  have hw := hw.perm b_sw2
  refine l_SW 5 gw_1094 gw_1095 gw_0 gw_1096 hd_L_best hC hw (h_best γ l hl9 v1 v2 v3 hHx hax) ⟨by decide, by decide⟩ ⟨by show cs + 1 ≤ 601024; omega, by show ss + 6 ≤ 7293034; omega⟩ hl.1 rfl rfl (Nat.le_of_ble_eq_true rfl) dL_law_628 (fun r w1 H locs hq hw => ?_)
  obtain ⟨k9, wx1, fo1, rfl, rfl, hHx9, hKx⟩ := hq
  have hkx := q_kp2 hHx hHx9 hKx (q := 1) (g := 1) (k := 1) rfl (by decide +kernel)
  have hkx2 : ∀ k, qsl2 wx1 2 k = qsl2 wx 2 k := fun k => q_kp2 hHx hHx9 hKx (q := 2) (g := 2) (k := k) rfl (qm_no (by decide +kernel) k)
  replace hTc := cTo_keep hHx hHx9 hKx (by decide +kernel) hTc
  replace hHx := hHx9
  clear hHx9 hKx
  refine W.eq (g2 := F0 m 631 ls [.int k9]) rfl ?_
  refine W.widen (k := cs + 1) (n := ss + 6) (Nat.le_refl _) (Nat.le_refl _) ?_
  refine lv_istore (lv' := [(5, .int k9), (4, .int i), (0, .ref b), (1, .ref x), (2, .ref z), (3, .ref ou)]) hx hb dL_law_631 hl (by decide) rfl (fun ls hl => ?_)
  have hw := hw.perm b_sw3
  have hw := hw.perm b_sw
  refine lv_aload_n hx hb dL_law_633 rfl (lv_at hl 4 rfl) ?_
  refine lv_aload_n hx hb dL_law_634 rfl (lv_at hl 2 rfl) ?_
  refine lv_iload hx hb dL_law_635 (lv_at hl 1 rfl) ?_
  refine lv_iconst (v := 1) hx hb dL_law_637 (by decide) ?_
  refine lv_iadd hx hb dL_law_638 ?_
  refine va_sld hx hb hX hbl hbA hw.2.2 (hi 1 (by decide) (by decide)) dL_law_639 ?_
  refine lv_topi (fun v4 ev4 => ?_)
  clear ev4
  refine lv_aload_n hx hb dL_law_640 rfl (lv_at hl 2 rfl) ?_
  refine lv_iload hx hb dL_law_641 (lv_at hl 1 rfl) ?_
  refine lv_iconst (v := 2) hx hb dL_law_643 (by decide) ?_
  refine lv_iadd hx hb dL_law_644 ?_
  refine va_sld hx hb hX hbl hbA hw.2.2 (hi 2 (by decide) (by decide)) dL_law_645 ?_
  refine lv_topi (fun v5 ev5 => ?_)
  clear ev5
  refine lv_aload_n hx hb dL_law_646 rfl (lv_at hl 2 rfl) ?_
  refine lv_iload hx hb dL_law_647 (lv_at hl 1 rfl) ?_
  refine lv_iconst (v := 3) hx hb dL_law_649 (by decide) ?_
  refine lv_iadd hx hb dL_law_650 ?_
  refine va_sld hx hb hX hbl hbA hw.2.2 (hi 3 (by decide) (by decide)) dL_law_651 ?_
  refine lv_topi (fun v6 ev6 => ?_)
  clear ev6
  obtain ⟨fsz, hfz⟩ := m_recv hHm ham
  obtain ⟨y8, hy8, hs8⟩ := mx_205 γ l
  cases hy8
  refine l_V 3 gw_1672 gw_1673 gw_1674 gw_15 gw_1675 hd_X12_best hC hw (hs8 am wm [.ref z, .int v4, .int v5, .int v6] ⟨hHm, hMx, ⟨v_ref rfl ham, v_int _, v_int _, v_int _, trivial⟩, fun f hf => (by cases hf), fun f hf => (by cases hf)⟩) ⟨by decide, by decide⟩ ⟨by show cs + 1 + 0 ≤ 601024; omega, by show ss + 6 + 0 ≤ 7293034; omega⟩ hl.1 rfl hfz rfl rfl (Nat.le_of_ble_eq_true rfl) dL_law_652 (fun r w2 H locs hq hw => ?_)
  obtain ⟨v8, rfl⟩ := l_ri (c := mn_205) rfl hq
  have hkm := q_kp2 hHm hq.1 hq.2.2.1 (q := 0) (g := 0) (k := 1) rfl (by decide +kernel)
  have hkm2 : ∀ k, qsl2 w2 1 k = qsl2 wm 1 k := fun k => q_kp2 hHm hq.1 hq.2.2.1 (q := 1) (g := 1) (k := k) rfl (qm_no (by decide +kernel) k)
  replace hTm := mTo_keep hHm hq.1 hq.2.2.1 (by decide +kernel) hTm
  replace hHm := hq.1
  replace hMx := hq.2.1
  clear hq hs8 hfz
  refine W.eq (g2 := F0 m 655 ls [.int v8]) rfl ?_
  have hw := hw.perm b_sw
  refine lv_istore (lv' := [(6, .int v8), (5, .int k9), (4, .int i), (0, .ref b), (1, .ref x), (2, .ref z), (3, .ref ou)]) hx hb dL_law_655 hl (by decide) rfl (fun ls hl => ?_)
  refine lv_goto (tgt := 1258) hx hb dL_law_657 (by decide) ?_
  exact W.widen (by show cs + 1 + 0 ≤ cs + 1; omega) (by show ss + 6 + 0 ≤ ss + 6; omega) (hk _ _ _ ⟨wx1, w2, fo1, hw, hHx, hHm, hMx, (lR_keep hRl hkx hkx2 hkm hkm2), S, S', hTc, hTm, hTr⟩ (lv_sub hl [2, 3, 4, 5, 6] rfl))

set_option maxHeartbeats 4000000 in
set_option maxRecDepth 100000 in
theorem lc_12 {γ : kΓ} {l : Launch} {p : Program} {e : Env} {s : State} {m : MethodId} {below : List Frame} {meth : Method} {c : Code} {A : Nat → Prop} {Q : State → Prop} {b L : Nat} {xs : Nat → Int32} {x z ou : Nat} {ax am : List Nat} {i : Int32} {cs ss : Nat} (hC : kC γ p s m [Value.ref b].toArray c code 7 RL A) (hX : va_X b L xs s s.heap) (hbl : b < s.heap.size) (hbA : ¬ A b) (hl9 : l.stackTraces = false) (hax : ax[0]? = some x) (ham : am[0]? = some z) (hi : ∀ j : Int32, 0 ≤ j → j ≤ 6 → vp_in (i + j) L) (hcs : cs + 1 ≤ 601024) (hss : ss + 6 ≤ 7293034)
    (hk : ∀ (H : Heap) (locs : List Loc) (ls : Array Slot), lIv γ A ax am ou s H locs → lv_has ls 7 [(4, .int i), (0, .ref b), (1, .ref x), (2, .ref z), (3, .ref ou)] → W p l e room_1 s m [Value.ref b].toArray below meth c H locs (cs + 1) (ss + 6) Q (F0 m 1258 ls []))
    {H : Heap} {locs : List Loc} {ls : Array Slot} (hI : lIv γ A ax am ou s H locs) (hl : lv_has ls 7 [(4, .int i), (0, .ref b), (1, .ref x), (2, .ref z), (3, .ref ou)]) : W p l e room_1 s m [Value.ref b].toArray below meth c H locs cs ss Q (F0 m 660 ls []) := by
  have hx := hC.1
  have hb := hC.2.1
  obtain ⟨wx, wm, fo, hw, hHx, hHm, hMx, hRl, S, S', hTc, hTm, hTr⟩ := hI
  refine lv_aload_n hx hb dL_law_660 rfl (lv_at hl 2 rfl) ?_
  refine lv_aload_n hx hb dL_law_661 rfl (lv_at hl 1 rfl) ?_
  refine lv_iload hx hb dL_law_662 (lv_at hl 0 rfl) ?_
  refine lv_iconst (v := 1) hx hb dL_law_664 (by decide) ?_
  refine lv_iadd hx hb dL_law_665 ?_
  refine va_sld hx hb hX hbl hbA hw.2.2 (hi 1 (by decide) (by decide)) dL_law_666 ?_
  refine lv_topi (fun v1 ev1 => ?_)
  clear ev1
  refine lv_aload_n hx hb dL_law_667 rfl (lv_at hl 1 rfl) ?_
  refine lv_iload hx hb dL_law_668 (lv_at hl 0 rfl) ?_
  refine lv_iconst (v := 2) hx hb dL_law_670 (by decide) ?_
  refine lv_iadd hx hb dL_law_671 ?_
  refine va_sld hx hb hX hbl hbA hw.2.2 (hi 2 (by decide) (by decide)) dL_law_672 ?_
  refine lv_topi (fun v2 ev2 => ?_)
  clear ev2
  obtain ⟨fsx, hfx⟩ := c_recv hHx hax
  obtain ⟨y9, hy9, hs9⟩ := cs_171 γ l
  cases hy9
  refine l_V 2 gw_888 gw_889 gw_890 gw_1 gw_891 hd_X11_tithed hC hw (hs9 ax wx [.ref x, .int v1, .int v2] ⟨hHx, trivial, ⟨v_ref rfl hax, v_int _, v_int _, trivial⟩, fun f hf => (by cases hf), fun f hf => (by cases hf)⟩) ⟨by decide, by decide⟩ ⟨by show cs + 0 ≤ 601024; omega, by show ss + 0 ≤ 7293034; omega⟩ hl.1 rfl hfx rfl rfl (Nat.le_of_ble_eq_true rfl) dL_law_673 (fun r w1 H locs hq hw => ?_)
  obtain ⟨v9, rfl⟩ := l_ri (c := cn_171) rfl hq
  have hkx := q_kp2 hHx hq.1 hq.2.2.1 (q := 1) (g := 1) (k := 1) rfl (by decide +kernel)
  have hkx2 : ∀ k, qsl2 w1 2 k = qsl2 wx 2 k := fun k => q_kp2 hHx hq.1 hq.2.2.1 (q := 2) (g := 2) (k := k) rfl (qm_no (by decide +kernel) k)
  replace hTc := cTo_keep hHx hq.1 hq.2.2.1 (by decide +kernel) hTc
  replace hHx := hq.1
  clear hq hs9 hfx
  refine W.eq (g2 := F0 m 676 ls [.int v9]) rfl ?_
  refine W.widen (k := cs) (n := ss) (Nat.le_refl _) (Nat.le_refl _) ?_
  refine lv_pop hx hb dL_law_676 rfl ?_
  clear v9
  have hw := hw.perm b_sw
  refine lv_aload_n hx hb dL_law_677 rfl (lv_at hl 3 rfl) ?_
  refine lv_aload_n hx hb dL_law_678 rfl (lv_at hl 1 rfl) ?_
  refine lv_iload hx hb dL_law_679 (lv_at hl 0 rfl) ?_
  refine lv_iconst (v := 1) hx hb dL_law_681 (by decide) ?_
  refine lv_iadd hx hb dL_law_682 ?_
  refine va_sld hx hb hX hbl hbA hw.2.2 (hi 1 (by decide) (by decide)) dL_law_683 ?_
  refine lv_topi (fun v3 ev3 => ?_)
  clear ev3
  refine lv_aload_n hx hb dL_law_684 rfl (lv_at hl 1 rfl) ?_
  refine lv_iload hx hb dL_law_685 (lv_at hl 0 rfl) ?_
  refine lv_iconst (v := 2) hx hb dL_law_687 (by decide) ?_
  refine lv_iadd hx hb dL_law_688 ?_
  refine va_sld hx hb hX hbl hbA hw.2.2 (hi 2 (by decide) (by decide)) dL_law_689 ?_
  refine lv_topi (fun v4 ev4 => ?_)
  clear ev4
  obtain ⟨fsz, hfz⟩ := m_recv hHm ham
  obtain ⟨y8, hy8, hs8⟩ := m_up rfl (ms_524 γ l)
  cases hy8
  refine l_V 2 gw_1680 gw_1681 gw_1682 gw_15 gw_1683 hd_X12_tithed hC hw (hs8 am wm [.ref z, .int v3, .int v4] ⟨hHm, hMx, ⟨v_ref rfl ham, v_int _, v_int _, trivial⟩, fun f hf => (by cases hf), fun f hf => (by cases hf)⟩) ⟨by decide, by decide⟩ ⟨by show cs + 0 ≤ 601024; omega, by show ss + 0 ≤ 7293034; omega⟩ hl.1 rfl hfz rfl rfl (Nat.le_of_ble_eq_true rfl) dL_law_690 (fun r w2 H locs hq hw => ?_)
  obtain ⟨v8, rfl⟩ := l_ri (c := mn_524) rfl hq
  have hkm := q_kp2 hHm hq.1 hq.2.2.1 (q := 0) (g := 0) (k := 1) rfl (by decide +kernel)
  have hkm2 : ∀ k, qsl2 w2 1 k = qsl2 wm 1 k := fun k => q_kp2 hHm hq.1 hq.2.2.1 (q := 1) (g := 1) (k := k) rfl (qm_no (by decide +kernel) k)
  replace hTm := mTo_keep hHm hq.1 hq.2.2.1 (by decide +kernel) hTm
  replace hHm := hq.1
  replace hMx := hq.2.1
  clear hq hs8 hfz
  refine W.eq (g2 := F0 m 693 ls [.int v8]) rfl ?_
  have hw := hw.perm b_sw
  refine lv_pop hx hb dL_law_693 rfl ?_
  refine lv_goto (tgt := 1258) hx hb dL_law_694 (by decide) ?_
  exact W.widen (by show cs + 0 ≤ cs + 1; omega) (by show ss + 0 ≤ ss + 6; omega) (hk _ _ _ ⟨w1, w2, fo, hw, hHx, hHm, hMx, (lR_keep hRl hkx hkx2 hkm hkm2), S, S', hTc, hTm, hTr⟩ hl)

set_option maxHeartbeats 4000000 in
set_option maxRecDepth 100000 in
theorem lc_13 {γ : kΓ} {l : Launch} {p : Program} {e : Env} {s : State} {m : MethodId} {below : List Frame} {meth : Method} {c : Code} {A : Nat → Prop} {Q : State → Prop} {b L : Nat} {xs : Nat → Int32} {x z ou : Nat} {ax am : List Nat} {i : Int32} {cs ss : Nat} (hC : kC γ p s m [Value.ref b].toArray c code 7 RL A) (hX : va_X b L xs s s.heap) (hbl : b < s.heap.size) (hbA : ¬ A b) (hl9 : l.stackTraces = false) (hax : ax[0]? = some x) (ham : am[0]? = some z) (hi : ∀ j : Int32, 0 ≤ j → j ≤ 6 → vp_in (i + j) L) (hcs : cs + 1 ≤ 601024) (hss : ss + 6 ≤ 7293034)
    (hk : ∀ (H : Heap) (locs : List Loc) (ls : Array Slot), lIv γ A ax am ou s H locs → lv_has ls 7 [(4, .int i), (0, .ref b), (1, .ref x), (2, .ref z), (3, .ref ou)] → W p l e room_1 s m [Value.ref b].toArray below meth c H locs (cs + 1) (ss + 6) Q (F0 m 1258 ls []))
    {H : Heap} {locs : List Loc} {ls : Array Slot} (hI : lIv γ A ax am ou s H locs) (hl : lv_has ls 7 [(4, .int i), (0, .ref b), (1, .ref x), (2, .ref z), (3, .ref ou)]) : W p l e room_1 s m [Value.ref b].toArray below meth c H locs cs ss Q (F0 m 697 ls []) := by
  have hx := hC.1
  have hb := hC.2.1
  obtain ⟨wx, wm, fo, hw, hHx, hHm, hMx, hRl, S, S', hTc, hTm, hTr⟩ := hI
  refine lv_aload_n hx hb dL_law_697 rfl (lv_at hl 2 rfl) ?_
  refine lv_aload_n hx hb dL_law_698 rfl (lv_at hl 1 rfl) ?_
  refine lv_iload hx hb dL_law_699 (lv_at hl 0 rfl) ?_
  refine lv_iconst (v := 1) hx hb dL_law_701 (by decide) ?_
  refine lv_iadd hx hb dL_law_702 ?_
  refine va_sld hx hb hX hbl hbA hw.2.2 (hi 1 (by decide) (by decide)) dL_law_703 ?_
  refine lv_topi (fun v1 ev1 => ?_)
  clear ev1
  refine lv_aload_n hx hb dL_law_704 rfl (lv_at hl 1 rfl) ?_
  refine lv_iload hx hb dL_law_705 (lv_at hl 0 rfl) ?_
  refine lv_iconst (v := 2) hx hb dL_law_707 (by decide) ?_
  refine lv_iadd hx hb dL_law_708 ?_
  refine va_sld hx hb hX hbl hbA hw.2.2 (hi 2 (by decide) (by decide)) dL_law_709 ?_
  refine lv_topi (fun v2 ev2 => ?_)
  clear ev2
  refine lv_aload_n hx hb dL_law_710 rfl (lv_at hl 1 rfl) ?_
  refine lv_iload hx hb dL_law_711 (lv_at hl 0 rfl) ?_
  refine lv_iconst (v := 3) hx hb dL_law_713 (by decide) ?_
  refine lv_iadd hx hb dL_law_714 ?_
  refine va_sld hx hb hX hbl hbA hw.2.2 (hi 3 (by decide) (by decide)) dL_law_715 ?_
  refine lv_topi (fun v3 ev3 => ?_)
  clear ev3
  obtain ⟨fsx, hfx⟩ := c_recv hHx hax
  obtain ⟨y9, hy9, hs9⟩ := cs_174 γ l
  cases hy9
  refine l_V 3 gw_898 gw_899 gw_900 gw_1 gw_901 hd_X11_ways hC hw (hs9 ax wx [.ref x, .int v1, .int v2, .int v3] ⟨hHx, trivial, ⟨v_ref rfl hax, v_int _, v_int _, v_int _, trivial⟩, fun f hf => (by cases hf), fun f hf => (by cases hf)⟩) ⟨by decide, by decide⟩ ⟨by show cs + 0 ≤ 601024; omega, by show ss + 0 ≤ 7293034; omega⟩ hl.1 rfl hfx rfl rfl (Nat.le_of_ble_eq_true rfl) dL_law_716 (fun r w1 H locs hq hw => ?_)
  obtain ⟨v9, rfl⟩ := l_ri (c := cn_174) rfl hq
  have hkx := q_kp2 hHx hq.1 hq.2.2.1 (q := 1) (g := 1) (k := 1) rfl (by decide +kernel)
  have hkx2 : ∀ k, qsl2 w1 2 k = qsl2 wx 2 k := fun k => q_kp2 hHx hq.1 hq.2.2.1 (q := 2) (g := 2) (k := k) rfl (qm_no (by decide +kernel) k)
  replace hTc := cTo_keep hHx hq.1 hq.2.2.1 (by decide +kernel) hTc
  replace hHx := hq.1
  clear hq hs9 hfx
  refine W.eq (g2 := F0 m 719 ls [.int v9]) rfl ?_
  refine W.widen (k := cs) (n := ss) (Nat.le_refl _) (Nat.le_refl _) ?_
  refine lv_pop hx hb dL_law_719 rfl ?_
  clear v9
  have hw := hw.perm b_sw
  refine lv_aload_n hx hb dL_law_720 rfl (lv_at hl 3 rfl) ?_
  refine lv_aload_n hx hb dL_law_721 rfl (lv_at hl 1 rfl) ?_
  refine lv_iload hx hb dL_law_722 (lv_at hl 0 rfl) ?_
  refine lv_iconst (v := 1) hx hb dL_law_724 (by decide) ?_
  refine lv_iadd hx hb dL_law_725 ?_
  refine va_sld hx hb hX hbl hbA hw.2.2 (hi 1 (by decide) (by decide)) dL_law_726 ?_
  refine lv_topi (fun v4 ev4 => ?_)
  clear ev4
  refine lv_aload_n hx hb dL_law_727 rfl (lv_at hl 1 rfl) ?_
  refine lv_iload hx hb dL_law_728 (lv_at hl 0 rfl) ?_
  refine lv_iconst (v := 2) hx hb dL_law_730 (by decide) ?_
  refine lv_iadd hx hb dL_law_731 ?_
  refine va_sld hx hb hX hbl hbA hw.2.2 (hi 2 (by decide) (by decide)) dL_law_732 ?_
  refine lv_topi (fun v5 ev5 => ?_)
  clear ev5
  refine lv_aload_n hx hb dL_law_733 rfl (lv_at hl 1 rfl) ?_
  refine lv_iload hx hb dL_law_734 (lv_at hl 0 rfl) ?_
  refine lv_iconst (v := 3) hx hb dL_law_736 (by decide) ?_
  refine lv_iadd hx hb dL_law_737 ?_
  refine va_sld hx hb hX hbl hbA hw.2.2 (hi 3 (by decide) (by decide)) dL_law_738 ?_
  refine lv_topi (fun v6 ev6 => ?_)
  clear ev6
  obtain ⟨fsz, hfz⟩ := m_recv hHm ham
  obtain ⟨y8, hy8, hs8⟩ := m_up rfl (ms_527 γ l)
  cases hy8
  refine l_V 3 gw_1688 gw_1689 gw_1690 gw_15 gw_1691 hd_X12_ways hC hw (hs8 am wm [.ref z, .int v4, .int v5, .int v6] ⟨hHm, hMx, ⟨v_ref rfl ham, v_int _, v_int _, v_int _, trivial⟩, fun f hf => (by cases hf), fun f hf => (by cases hf)⟩) ⟨by decide, by decide⟩ ⟨by show cs + 0 ≤ 601024; omega, by show ss + 0 ≤ 7293034; omega⟩ hl.1 rfl hfz rfl rfl (Nat.le_of_ble_eq_true rfl) dL_law_739 (fun r w2 H locs hq hw => ?_)
  obtain ⟨v8, rfl⟩ := l_ri (c := mn_527) rfl hq
  have hkm := q_kp2 hHm hq.1 hq.2.2.1 (q := 0) (g := 0) (k := 1) rfl (by decide +kernel)
  have hkm2 : ∀ k, qsl2 w2 1 k = qsl2 wm 1 k := fun k => q_kp2 hHm hq.1 hq.2.2.1 (q := 1) (g := 1) (k := k) rfl (qm_no (by decide +kernel) k)
  replace hTm := mTo_keep hHm hq.1 hq.2.2.1 (by decide +kernel) hTm
  replace hHm := hq.1
  replace hMx := hq.2.1
  clear hq hs8 hfz
  refine W.eq (g2 := F0 m 742 ls [.int v8]) rfl ?_
  have hw := hw.perm b_sw
  refine lv_pop hx hb dL_law_742 rfl ?_
  refine lv_goto (tgt := 1258) hx hb dL_law_743 (by decide) ?_
  exact W.widen (by show cs + 0 ≤ cs + 1; omega) (by show ss + 0 ≤ ss + 6; omega) (hk _ _ _ ⟨w1, w2, fo, hw, hHx, hHm, hMx, (lR_keep hRl hkx hkx2 hkm hkm2), S, S', hTc, hTm, hTr⟩ hl)

set_option maxHeartbeats 4000000 in
set_option maxRecDepth 100000 in
theorem lc_14 {γ : kΓ} {l : Launch} {p : Program} {e : Env} {s : State} {m : MethodId} {below : List Frame} {meth : Method} {c : Code} {A : Nat → Prop} {Q : State → Prop} {b L : Nat} {xs : Nat → Int32} {x z ou : Nat} {ax am : List Nat} {i : Int32} {cs ss : Nat} (hC : kC γ p s m [Value.ref b].toArray c code 7 RL A) (hX : va_X b L xs s s.heap) (hbl : b < s.heap.size) (hbA : ¬ A b) (hl9 : l.stackTraces = false) (hax : ax[0]? = some x) (ham : am[0]? = some z) (hi : ∀ j : Int32, 0 ≤ j → j ≤ 6 → vp_in (i + j) L) (hcs : cs + 1 ≤ 601024) (hss : ss + 6 ≤ 7293034)
    (hk : ∀ (H : Heap) (locs : List Loc) (ls : Array Slot), lIv γ A ax am ou s H locs → lv_has ls 7 [(4, .int i), (0, .ref b), (1, .ref x), (2, .ref z), (3, .ref ou)] → W p l e room_1 s m [Value.ref b].toArray below meth c H locs (cs + 1) (ss + 6) Q (F0 m 1258 ls []))
    {H : Heap} {locs : List Loc} {ls : Array Slot} (hI : lIv γ A ax am ou s H locs) (hl : lv_has ls 7 [(4, .int i), (0, .ref b), (1, .ref x), (2, .ref z), (3, .ref ou)]) : W p l e room_1 s m [Value.ref b].toArray below meth c H locs cs ss Q (F0 m 746 ls []) := by
  have hx := hC.1
  have hb := hC.2.1
  obtain ⟨wx, wm, fo, hw, hHx, hHm, hMx, hRl, S, S', hTc, hTm, hTr⟩ := hI
  refine lv_aload_n hx hb dL_law_746 rfl (lv_at hl 2 rfl) ?_
  refine lv_aload_n hx hb dL_law_747 rfl (lv_at hl 1 rfl) ?_
  refine lv_iload hx hb dL_law_748 (lv_at hl 0 rfl) ?_
  refine lv_iconst (v := 1) hx hb dL_law_750 (by decide) ?_
  refine lv_iadd hx hb dL_law_751 ?_
  refine va_sld hx hb hX hbl hbA hw.2.2 (hi 1 (by decide) (by decide)) dL_law_752 ?_
  refine lv_topi (fun v1 ev1 => ?_)
  clear ev1
  obtain ⟨fsx, hfx⟩ := c_recv hHx hax
  obtain ⟨y9, hy9, hs9⟩ := cs_167 γ l
  cases hy9
  refine l_V 1 gw_929 gw_930 gw_931 gw_1 gw_932 hd_X11_safe hC hw (hs9 ax wx [.ref x, .int v1] ⟨hHx, trivial, ⟨v_ref rfl hax, v_int _, trivial⟩, fun f hf => (by cases hf), fun f hf => (by cases hf)⟩) ⟨by decide, by decide⟩ ⟨by show cs + 0 ≤ 601024; omega, by show ss + 0 ≤ 7293034; omega⟩ hl.1 rfl hfx rfl rfl (Nat.le_of_ble_eq_true rfl) dL_law_753 (fun r w1 H locs hq hw => ?_)
  obtain ⟨v9, rfl⟩ := l_ri (c := cn_167) rfl hq
  have hkx := q_kp2 hHx hq.1 hq.2.2.1 (q := 1) (g := 1) (k := 1) rfl (by decide +kernel)
  have hkx2 : ∀ k, qsl2 w1 2 k = qsl2 wx 2 k := fun k => q_kp2 hHx hq.1 hq.2.2.1 (q := 2) (g := 2) (k := k) rfl (qm_no (by decide +kernel) k)
  replace hTc := cTo_keep hHx hq.1 hq.2.2.1 (by decide +kernel) hTc
  replace hHx := hq.1
  clear hq hs9 hfx
  refine W.eq (g2 := F0 m 756 ls [.int v9]) rfl ?_
  refine W.widen (k := cs) (n := ss) (Nat.le_refl _) (Nat.le_refl _) ?_
  refine lv_pop hx hb dL_law_756 rfl ?_
  clear v9
  have hw := hw.perm b_sw
  refine lv_aload_n hx hb dL_law_757 rfl (lv_at hl 3 rfl) ?_
  refine lv_aload_n hx hb dL_law_758 rfl (lv_at hl 1 rfl) ?_
  refine lv_iload hx hb dL_law_759 (lv_at hl 0 rfl) ?_
  refine lv_iconst (v := 1) hx hb dL_law_761 (by decide) ?_
  refine lv_iadd hx hb dL_law_762 ?_
  refine va_sld hx hb hX hbl hbA hw.2.2 (hi 1 (by decide) (by decide)) dL_law_763 ?_
  refine lv_topi (fun v2 ev2 => ?_)
  clear ev2
  obtain ⟨fsz, hfz⟩ := m_recv hHm ham
  obtain ⟨y8, hy8, hs8⟩ := mx_519 γ l
  cases hy8
  refine l_V 1 gw_1732 gw_1733 gw_1734 gw_15 gw_1735 hd_X12_safe hC hw (hs8 am wm [.ref z, .int v2] ⟨hHm, hMx, ⟨v_ref rfl ham, v_int _, trivial⟩, fun f hf => (by cases hf), fun f hf => (by cases hf)⟩) ⟨by decide, by decide⟩ ⟨by show cs + 0 ≤ 601024; omega, by show ss + 0 ≤ 7293034; omega⟩ hl.1 rfl hfz rfl rfl (Nat.le_of_ble_eq_true rfl) dL_law_764 (fun r w2 H locs hq hw => ?_)
  obtain ⟨v8, rfl⟩ := l_ri (c := mn_519) rfl hq
  have hkm := q_kp2 hHm hq.1 hq.2.2.1 (q := 0) (g := 0) (k := 1) rfl (by decide +kernel)
  have hkm2 : ∀ k, qsl2 w2 1 k = qsl2 wm 1 k := fun k => q_kp2 hHm hq.1 hq.2.2.1 (q := 1) (g := 1) (k := k) rfl (qm_no (by decide +kernel) k)
  replace hTm := mTo_keep hHm hq.1 hq.2.2.1 (by decide +kernel) hTm
  replace hHm := hq.1
  replace hMx := hq.2.1
  clear hq hs8 hfz
  refine W.eq (g2 := F0 m 767 ls [.int v8]) rfl ?_
  have hw := hw.perm b_sw
  refine lv_pop hx hb dL_law_767 rfl ?_
  refine lv_goto (tgt := 1258) hx hb dL_law_768 (by decide) ?_
  exact W.widen (by show cs + 0 ≤ cs + 1; omega) (by show ss + 0 ≤ ss + 6; omega) (hk _ _ _ ⟨w1, w2, fo, hw, hHx, hHm, hMx, (lR_keep hRl hkx hkx2 hkm hkm2), S, S', hTc, hTm, hTr⟩ hl)

set_option maxHeartbeats 4000000 in
set_option maxRecDepth 100000 in
theorem lc_15 {γ : kΓ} {l : Launch} {p : Program} {e : Env} {s : State} {m : MethodId} {below : List Frame} {meth : Method} {c : Code} {A : Nat → Prop} {Q : State → Prop} {b L : Nat} {xs : Nat → Int32} {x z ou : Nat} {ax am : List Nat} {i : Int32} {cs ss : Nat} (hC : kC γ p s m [Value.ref b].toArray c code 7 RL A) (hX : va_X b L xs s s.heap) (hbl : b < s.heap.size) (hbA : ¬ A b) (hl9 : l.stackTraces = false) (hax : ax[0]? = some x) (ham : am[0]? = some z) (hi : ∀ j : Int32, 0 ≤ j → j ≤ 6 → vp_in (i + j) L) (hcs : cs + 1 ≤ 601024) (hss : ss + 6 ≤ 7293034)
    (hk : ∀ (H : Heap) (locs : List Loc) (ls : Array Slot), lIv γ A ax am ou s H locs → lv_has ls 7 [(4, .int i), (0, .ref b), (1, .ref x), (2, .ref z), (3, .ref ou)] → W p l e room_1 s m [Value.ref b].toArray below meth c H locs (cs + 1) (ss + 6) Q (F0 m 1258 ls []))
    {H : Heap} {locs : List Loc} {ls : Array Slot} (hI : lIv γ A ax am ou s H locs) (hl : lv_has ls 7 [(4, .int i), (0, .ref b), (1, .ref x), (2, .ref z), (3, .ref ou)]) : W p l e room_1 s m [Value.ref b].toArray below meth c H locs cs ss Q (F0 m 771 ls []) := by
  have hx := hC.1
  have hb := hC.2.1
  obtain ⟨wx, wm, fo, hw, hHx, hHm, hMx, hRl, S, S', hTc, hTm, hTr⟩ := hI
  refine lv_aload_n hx hb dL_law_771 rfl (lv_at hl 2 rfl) ?_
  refine lv_aload_n hx hb dL_law_772 rfl (lv_at hl 1 rfl) ?_
  refine lv_iload hx hb dL_law_773 (lv_at hl 0 rfl) ?_
  refine lv_iconst (v := 1) hx hb dL_law_775 (by decide) ?_
  refine lv_iadd hx hb dL_law_776 ?_
  refine va_sld hx hb hX hbl hbA hw.2.2 (hi 1 (by decide) (by decide)) dL_law_777 ?_
  refine lv_topi (fun v1 ev1 => ?_)
  clear ev1
  obtain ⟨fsx, hfx⟩ := c_recv hHx hax
  obtain ⟨y9, hy9, hs9⟩ := cs_133 γ l
  cases hy9
  refine l_V 1 gw_942 gw_943 gw_944 gw_1 gw_945 hd_X11_holders hC hw (hs9 ax wx [.ref x, .int v1] ⟨hHx, trivial, ⟨v_ref rfl hax, v_int _, trivial⟩, fun f hf => (by cases hf), fun f hf => (by cases hf)⟩) ⟨by decide, by decide⟩ ⟨by show cs + 0 ≤ 601024; omega, by show ss + 0 ≤ 7293034; omega⟩ hl.1 rfl hfx rfl rfl (Nat.le_of_ble_eq_true rfl) dL_law_778 (fun r w1 H locs hq hw => ?_)
  obtain ⟨v9, rfl⟩ := l_ri (c := cn_133) rfl hq
  have hkx := q_kp2 hHx hq.1 hq.2.2.1 (q := 1) (g := 1) (k := 1) rfl (by decide +kernel)
  have hkx2 : ∀ k, qsl2 w1 2 k = qsl2 wx 2 k := fun k => q_kp2 hHx hq.1 hq.2.2.1 (q := 2) (g := 2) (k := k) rfl (qm_no (by decide +kernel) k)
  replace hTc := cTo_keep hHx hq.1 hq.2.2.1 (by decide +kernel) hTc
  replace hHx := hq.1
  clear hq hs9 hfx
  refine W.eq (g2 := F0 m 781 ls [.int v9]) rfl ?_
  refine W.widen (k := cs) (n := ss) (Nat.le_refl _) (Nat.le_refl _) ?_
  refine lv_pop hx hb dL_law_781 rfl ?_
  clear v9
  have hw := hw.perm b_sw
  refine lv_aload_n hx hb dL_law_782 rfl (lv_at hl 3 rfl) ?_
  refine lv_aload_n hx hb dL_law_783 rfl (lv_at hl 1 rfl) ?_
  refine lv_iload hx hb dL_law_784 (lv_at hl 0 rfl) ?_
  refine lv_iconst (v := 1) hx hb dL_law_786 (by decide) ?_
  refine lv_iadd hx hb dL_law_787 ?_
  refine va_sld hx hb hX hbl hbA hw.2.2 (hi 1 (by decide) (by decide)) dL_law_788 ?_
  refine lv_topi (fun v2 ev2 => ?_)
  clear ev2
  obtain ⟨fsz, hfz⟩ := m_recv hHm ham
  obtain ⟨y8, hy8, hs8⟩ := m_up rfl (ms_343 γ l)
  cases hy8
  refine l_V 1 gw_1736 gw_1737 gw_1738 gw_15 gw_1739 hd_X12_holders hC hw (hs8 am wm [.ref z, .int v2] ⟨hHm, hMx, ⟨v_ref rfl ham, v_int _, trivial⟩, fun f hf => (by cases hf), fun f hf => (by cases hf)⟩) ⟨by decide, by decide⟩ ⟨by show cs + 0 ≤ 601024; omega, by show ss + 0 ≤ 7293034; omega⟩ hl.1 rfl hfz rfl rfl (Nat.le_of_ble_eq_true rfl) dL_law_789 (fun r w2 H locs hq hw => ?_)
  obtain ⟨v8, rfl⟩ := l_ri (c := mn_343) rfl hq
  have hkm := q_kp2 hHm hq.1 hq.2.2.1 (q := 0) (g := 0) (k := 1) rfl (by decide +kernel)
  have hkm2 : ∀ k, qsl2 w2 1 k = qsl2 wm 1 k := fun k => q_kp2 hHm hq.1 hq.2.2.1 (q := 1) (g := 1) (k := k) rfl (qm_no (by decide +kernel) k)
  replace hTm := mTo_keep hHm hq.1 hq.2.2.1 (by decide +kernel) hTm
  replace hHm := hq.1
  replace hMx := hq.2.1
  clear hq hs8 hfz
  refine W.eq (g2 := F0 m 792 ls [.int v8]) rfl ?_
  have hw := hw.perm b_sw
  refine lv_pop hx hb dL_law_792 rfl ?_
  refine lv_goto (tgt := 1258) hx hb dL_law_793 (by decide) ?_
  exact W.widen (by show cs + 0 ≤ cs + 1; omega) (by show ss + 0 ≤ ss + 6; omega) (hk _ _ _ ⟨w1, w2, fo, hw, hHx, hHm, hMx, (lR_keep hRl hkx hkx2 hkm hkm2), S, S', hTc, hTm, hTr⟩ hl)

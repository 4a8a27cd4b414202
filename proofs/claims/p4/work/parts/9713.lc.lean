set_option maxHeartbeats 4000000 in
set_option maxRecDepth 100000 in
theorem lc_24 {γ : kΓ} {l : Launch} {p : Program} {e : Env} {s : State} {m : MethodId} {below : List Frame} {meth : Method} {c : Code} {A : Nat → Prop} {Q : State → Prop} {b L : Nat} {xs : Nat → Int32} {x z ou : Nat} {ax am : List Nat} {i : Int32} {cs ss : Nat} (hC : kC γ p s m [Value.ref b].toArray c code 7 RL A) (hX : va_X b L xs s s.heap) (hbl : b < s.heap.size) (hbA : ¬ A b) (hl9 : l.stackTraces = false) (hax : ax[0]? = some x) (ham : am[0]? = some z) (hi : ∀ j : Int32, 0 ≤ j → j ≤ 6 → vp_in (i + j) L) (hcs : cs + 1 ≤ 601024) (hss : ss + 6 ≤ 7293034)
    (hk : ∀ (H : Heap) (locs : List Loc) (ls : Array Slot), lIv γ A ax am ou s H locs → lv_has ls 7 [(4, .int i), (0, .ref b), (1, .ref x), (2, .ref z), (3, .ref ou)] → W p l e room_1 s m [Value.ref b].toArray below meth c H locs (cs + 1) (ss + 6) Q (F0 m 1258 ls []))
    {H : Heap} {locs : List Loc} {ls : Array Slot} (hI : lIv γ A ax am ou s H locs) (hl : lv_has ls 7 [(4, .int i), (0, .ref b), (1, .ref x), (2, .ref z), (3, .ref ou)]) : W p l e room_1 s m [Value.ref b].toArray below meth c H locs cs ss Q (F0 m 964 ls []) := by
  have hx := hC.1
  have hb := hC.2.1
  obtain ⟨wx, wm, fo, hw, hHx, hHm, hMx, hRl, S, S', hTc, hTm, hTr⟩ := hI
  refine lv_aload_n hx hb dL_law_964 rfl (lv_at hl 2 rfl) ?_
  refine lv_aload_n hx hb dL_law_965 rfl (lv_at hl 1 rfl) ?_
  refine lv_iload hx hb dL_law_966 (lv_at hl 0 rfl) ?_
  refine lv_iconst (v := 1) hx hb dL_law_968 (by decide) ?_
  refine lv_iadd hx hb dL_law_969 ?_
  refine va_sld hx hb hX hbl hbA hw.2.2 (hi 1 (by decide) (by decide)) dL_law_970 ?_
  refine lv_topi (fun v1 ev1 => ?_)
  clear ev1
  refine lv_aload_n hx hb dL_law_971 rfl (lv_at hl 1 rfl) ?_
  refine lv_iload hx hb dL_law_972 (lv_at hl 0 rfl) ?_
  refine lv_iconst (v := 2) hx hb dL_law_974 (by decide) ?_
  refine lv_iadd hx hb dL_law_975 ?_
  refine va_sld hx hb hX hbl hbA hw.2.2 (hi 2 (by decide) (by decide)) dL_law_976 ?_
  refine lv_topi (fun v2 ev2 => ?_)
  clear ev2
  obtain ⟨fsx, hfx⟩ := c_recv hHx hax
  obtain ⟨y9, hy9, hs9⟩ := cs_113 γ l
  cases hy9
  refine l_V 2 gw_923 gw_924 gw_925 gw_1 gw_926 hd_X11_chance hC hw (hs9 ax wx [.ref x, .int v1, .int v2] ⟨hHx, trivial, ⟨v_ref rfl hax, v_int _, v_int _, trivial⟩, fun f hf => (by cases hf), fun f hf => (by cases hf)⟩) ⟨by decide, by decide⟩ ⟨by show cs + 0 ≤ 601024; omega, by show ss + 0 ≤ 7293034; omega⟩ hl.1 rfl hfx rfl rfl (Nat.le_of_ble_eq_true rfl) dL_law_977 (fun r w1 H locs hq hw => ?_)
  obtain ⟨v9, rfl⟩ := l_ri (c := cn_113) rfl hq
  have hkx := q_kp2 hHx hq.1 hq.2.2.1 (q := 1) (g := 1) (k := 1) rfl (by decide +kernel)
  have hkx2 : ∀ k, qsl2 w1 2 k = qsl2 wx 2 k := fun k => q_kp2 hHx hq.1 hq.2.2.1 (q := 2) (g := 2) (k := k) rfl (qm_no (by decide +kernel) k)
  replace hTc := cTo_keep hHx hq.1 hq.2.2.1 (by decide +kernel) hTc
  replace hHx := hq.1
  clear hq hs9 hfx
  refine W.eq (g2 := F0 m 980 ls [.int v9]) rfl ?_
  refine W.widen (k := cs) (n := ss) (Nat.le_refl _) (Nat.le_refl _) ?_
  refine lv_pop hx hb dL_law_980 rfl ?_
  clear v9
  have hw := hw.perm b_sw
  refine lv_aload_n hx hb dL_law_981 rfl (lv_at hl 3 rfl) ?_
  refine lv_aload_n hx hb dL_law_982 rfl (lv_at hl 1 rfl) ?_
  refine lv_iload hx hb dL_law_983 (lv_at hl 0 rfl) ?_
  refine lv_iconst (v := 1) hx hb dL_law_985 (by decide) ?_
  refine lv_iadd hx hb dL_law_986 ?_
  refine va_sld hx hb hX hbl hbA hw.2.2 (hi 1 (by decide) (by decide)) dL_law_987 ?_
  refine lv_topi (fun v3 ev3 => ?_)
  clear ev3
  refine lv_aload_n hx hb dL_law_988 rfl (lv_at hl 1 rfl) ?_
  refine lv_iload hx hb dL_law_989 (lv_at hl 0 rfl) ?_
  refine lv_iconst (v := 2) hx hb dL_law_991 (by decide) ?_
  refine lv_iadd hx hb dL_law_992 ?_
  refine va_sld hx hb hX hbl hbA hw.2.2 (hi 2 (by decide) (by decide)) dL_law_993 ?_
  refine lv_topi (fun v4 ev4 => ?_)
  clear ev4
  obtain ⟨fsz, hfz⟩ := m_recv hHm ham
  obtain ⟨y8, hy8, hs8⟩ := m_up rfl (ms_223 γ l)
  cases hy8
  refine l_V 2 gw_1692 gw_1693 gw_1694 gw_15 gw_1695 hd_X12_chance hC hw (hs8 am wm [.ref z, .int v3, .int v4] ⟨hHm, hMx, ⟨v_ref rfl ham, v_int _, v_int _, trivial⟩, fun f hf => (by cases hf), fun f hf => (by cases hf)⟩) ⟨by decide, by decide⟩ ⟨by show cs + 0 ≤ 601024; omega, by show ss + 0 ≤ 7293034; omega⟩ hl.1 rfl hfz rfl rfl (Nat.le_of_ble_eq_true rfl) dL_law_994 (fun r w2 H locs hq hw => ?_)
  obtain ⟨v8, rfl⟩ := l_ri (c := mn_223) rfl hq
  have hkm := q_kp2 hHm hq.1 hq.2.2.1 (q := 0) (g := 0) (k := 1) rfl (by decide +kernel)
  have hkm2 : ∀ k, qsl2 w2 1 k = qsl2 wm 1 k := fun k => q_kp2 hHm hq.1 hq.2.2.1 (q := 1) (g := 1) (k := k) rfl (qm_no (by decide +kernel) k)
  replace hTm := mTo_keep hHm hq.1 hq.2.2.1 (by decide +kernel) hTm
  replace hHm := hq.1
  replace hMx := hq.2.1
  clear hq hs8 hfz
  refine W.eq (g2 := F0 m 997 ls [.int v8]) rfl ?_
  have hw := hw.perm b_sw
  refine lv_pop hx hb dL_law_997 rfl ?_
  refine lv_goto (tgt := 1258) hx hb dL_law_998 (by decide) ?_
  exact W.widen (by show cs + 0 ≤ cs + 1; omega) (by show ss + 0 ≤ ss + 6; omega) (hk _ _ _ ⟨w1, w2, fo, hw, hHx, hHm, hMx, (lR_keep hRl hkx hkx2 hkm hkm2), S, S', hTc, hTm, hTr⟩ hl)

set_option maxHeartbeats 4000000 in
set_option maxRecDepth 100000 in
theorem lc_25 {γ : kΓ} {l : Launch} {p : Program} {e : Env} {s : State} {m : MethodId} {below : List Frame} {meth : Method} {c : Code} {A : Nat → Prop} {Q : State → Prop} {b L : Nat} {xs : Nat → Int32} {x z ou : Nat} {ax am : List Nat} {i : Int32} {cs ss : Nat} (hC : kC γ p s m [Value.ref b].toArray c code 7 RL A) (hX : va_X b L xs s s.heap) (hbl : b < s.heap.size) (hbA : ¬ A b) (hl9 : l.stackTraces = false) (hax : ax[0]? = some x) (ham : am[0]? = some z) (hi : ∀ j : Int32, 0 ≤ j → j ≤ 6 → vp_in (i + j) L) (hcs : cs + 1 ≤ 601024) (hss : ss + 6 ≤ 7293034)
    (hk : ∀ (H : Heap) (locs : List Loc) (ls : Array Slot), lIv γ A ax am ou s H locs → lv_has ls 7 [(4, .int i), (0, .ref b), (1, .ref x), (2, .ref z), (3, .ref ou)] → W p l e room_1 s m [Value.ref b].toArray below meth c H locs (cs + 1) (ss + 6) Q (F0 m 1258 ls []))
    {H : Heap} {locs : List Loc} {ls : Array Slot} (hI : lIv γ A ax am ou s H locs) (hl : lv_has ls 7 [(4, .int i), (0, .ref b), (1, .ref x), (2, .ref z), (3, .ref ou)]) : W p l e room_1 s m [Value.ref b].toArray below meth c H locs cs ss Q (F0 m 1001 ls []) := by
  have hx := hC.1
  have hb := hC.2.1
  obtain ⟨wx, wm, fo, hw, hHx, hHm, hMx, hRl, S, S', hTc, hTm, hTr⟩ := hI
  refine lv_aload_n hx hb dL_law_1001 rfl (lv_at hl 2 rfl) ?_
  obtain ⟨fsx, hfx⟩ := c_recv hHx hax
  obtain ⟨y9, hy9, hs9⟩ := cs_116 γ l
  cases hy9
  refine l_V 0 gw_934 gw_935 gw_936 gw_1 gw_937 hd_X11_dead hC hw (hs9 ax wx [.ref x] ⟨hHx, trivial, ⟨v_ref rfl hax, trivial⟩, fun f hf => (by cases hf), fun f hf => (by cases hf)⟩) ⟨by decide, by decide⟩ ⟨by show cs + 0 ≤ 601024; omega, by show ss + 0 ≤ 7293034; omega⟩ hl.1 rfl hfx rfl rfl (Nat.le_of_ble_eq_true rfl) dL_law_1002 (fun r w1 H locs hq hw => ?_)
  obtain ⟨v9, rfl⟩ := l_ri (c := cn_116) rfl hq
  have hkx := q_kp2 hHx hq.1 hq.2.2.1 (q := 1) (g := 1) (k := 1) rfl (by decide +kernel)
  have hkx2 : ∀ k, qsl2 w1 2 k = qsl2 wx 2 k := fun k => q_kp2 hHx hq.1 hq.2.2.1 (q := 2) (g := 2) (k := k) rfl (qm_no (by decide +kernel) k)
  replace hTc := cTo_keep hHx hq.1 hq.2.2.1 (by decide +kernel) hTc
  replace hHx := hq.1
  clear hq hs9 hfx
  refine W.eq (g2 := F0 m 1005 ls [.int v9]) rfl ?_
  refine W.widen (k := cs) (n := ss) (Nat.le_refl _) (Nat.le_refl _) ?_
  refine lv_pop hx hb dL_law_1005 rfl ?_
  clear v9
  have hw := hw.perm b_sw
  refine lv_aload_n hx hb dL_law_1006 rfl (lv_at hl 3 rfl) ?_
  obtain ⟨fsz, hfz⟩ := m_recv hHm ham
  obtain ⟨y8, hy8, hs8⟩ := m_up rfl (ms_274 γ l)
  cases hy8
  refine l_V 0 gw_1768 gw_1769 gw_1770 gw_15 gw_1771 hd_X12_dead hC hw (hs8 am wm [.ref z] ⟨hHm, hMx, ⟨v_ref rfl ham, trivial⟩, fun f hf => (by cases hf), fun f hf => (by cases hf)⟩) ⟨by decide, by decide⟩ ⟨by show cs + 0 ≤ 601024; omega, by show ss + 0 ≤ 7293034; omega⟩ hl.1 rfl hfz rfl rfl (Nat.le_of_ble_eq_true rfl) dL_law_1007 (fun r w2 H locs hq hw => ?_)
  obtain ⟨v8, rfl⟩ := l_ri (c := mn_274) rfl hq
  have hkm := q_kp2 hHm hq.1 hq.2.2.1 (q := 0) (g := 0) (k := 1) rfl (by decide +kernel)
  have hkm2 : ∀ k, qsl2 w2 1 k = qsl2 wm 1 k := fun k => q_kp2 hHm hq.1 hq.2.2.1 (q := 1) (g := 1) (k := k) rfl (qm_no (by decide +kernel) k)
  replace hTm := mTo_keep hHm hq.1 hq.2.2.1 (by decide +kernel) hTm
  replace hHm := hq.1
  replace hMx := hq.2.1
  clear hq hs8 hfz
  refine W.eq (g2 := F0 m 1010 ls [.int v8]) rfl ?_
  have hw := hw.perm b_sw
  refine lv_pop hx hb dL_law_1010 rfl ?_
  refine lv_goto (tgt := 1258) hx hb dL_law_1011 (by decide) ?_
  exact W.widen (by show cs + 0 ≤ cs + 1; omega) (by show ss + 0 ≤ ss + 6; omega) (hk _ _ _ ⟨w1, w2, fo, hw, hHx, hHm, hMx, (lR_keep hRl hkx hkx2 hkm hkm2), S, S', hTc, hTm, hTr⟩ hl)

set_option maxHeartbeats 4000000 in
set_option maxRecDepth 100000 in
theorem lc_26 {γ : kΓ} {l : Launch} {p : Program} {e : Env} {s : State} {m : MethodId} {below : List Frame} {meth : Method} {c : Code} {A : Nat → Prop} {Q : State → Prop} {b L : Nat} {xs : Nat → Int32} {x z ou : Nat} {ax am : List Nat} {i : Int32} {cs ss : Nat} (hC : kC γ p s m [Value.ref b].toArray c code 7 RL A) (hX : va_X b L xs s s.heap) (hbl : b < s.heap.size) (hbA : ¬ A b) (hl9 : l.stackTraces = false) (hax : ax[0]? = some x) (ham : am[0]? = some z) (hi : ∀ j : Int32, 0 ≤ j → j ≤ 6 → vp_in (i + j) L) (hcs : cs + 1 ≤ 601024) (hss : ss + 6 ≤ 7293034)
    (hk : ∀ (H : Heap) (locs : List Loc) (ls : Array Slot), lIv γ A ax am ou s H locs → lv_has ls 7 [(4, .int i), (0, .ref b), (1, .ref x), (2, .ref z), (3, .ref ou)] → W p l e room_1 s m [Value.ref b].toArray below meth c H locs (cs + 1) (ss + 6) Q (F0 m 1258 ls []))
    {H : Heap} {locs : List Loc} {ls : Array Slot} (hI : lIv γ A ax am ou s H locs) (hl : lv_has ls 7 [(4, .int i), (0, .ref b), (1, .ref x), (2, .ref z), (3, .ref ou)]) : W p l e room_1 s m [Value.ref b].toArray below meth c H locs cs ss Q (F0 m 1014 ls []) := by
  have hx := hC.1
  have hb := hC.2.1
  obtain ⟨wx, wm, fo, hw, hHx, hHm, hMx, hRl, S, S', hTc, hTm, hTr⟩ := hI
  refine lv_aload_n hx hb dL_law_1014 rfl (lv_at hl 2 rfl) ?_
  refine lv_aload_n hx hb dL_law_1015 rfl (lv_at hl 1 rfl) ?_
  refine lv_iload hx hb dL_law_1016 (lv_at hl 0 rfl) ?_
  refine lv_iconst (v := 1) hx hb dL_law_1018 (by decide) ?_
  refine lv_iadd hx hb dL_law_1019 ?_
  refine va_sld hx hb hX hbl hbA hw.2.2 (hi 1 (by decide) (by decide)) dL_law_1020 ?_
  refine lv_topi (fun v1 ev1 => ?_)
  clear ev1
  obtain ⟨fsx, hfx⟩ := c_recv hHx hax
  obtain ⟨y9, hy9, hs9⟩ := cs_166 γ l
  cases hy9
  refine l_V 1 gw_938 gw_939 gw_940 gw_1 gw_941 hd_X11_ring hC hw (hs9 ax wx [.ref x, .int v1] ⟨hHx, trivial, ⟨v_ref rfl hax, v_int _, trivial⟩, fun f hf => (by cases hf), fun f hf => (by cases hf)⟩) ⟨by decide, by decide⟩ ⟨by show cs + 0 ≤ 601024; omega, by show ss + 0 ≤ 7293034; omega⟩ hl.1 rfl hfx rfl rfl (Nat.le_of_ble_eq_true rfl) dL_law_1021 (fun r w1 H locs hq hw => ?_)
  obtain ⟨v9, rfl⟩ := l_ri (c := cn_166) rfl hq
  have hkx := q_kp2 hHx hq.1 hq.2.2.1 (q := 1) (g := 1) (k := 1) rfl (by decide +kernel)
  have hkx2 : ∀ k, qsl2 w1 2 k = qsl2 wx 2 k := fun k => q_kp2 hHx hq.1 hq.2.2.1 (q := 2) (g := 2) (k := k) rfl (qm_no (by decide +kernel) k)
  replace hTc := cTo_keep hHx hq.1 hq.2.2.1 (by decide +kernel) hTc
  replace hHx := hq.1
  clear hq hs9 hfx
  refine W.eq (g2 := F0 m 1024 ls [.int v9]) rfl ?_
  refine W.widen (k := cs) (n := ss) (Nat.le_refl _) (Nat.le_refl _) ?_
  refine lv_pop hx hb dL_law_1024 rfl ?_
  clear v9
  have hw := hw.perm b_sw
  refine lv_aload_n hx hb dL_law_1025 rfl (lv_at hl 3 rfl) ?_
  refine lv_aload_n hx hb dL_law_1026 rfl (lv_at hl 1 rfl) ?_
  refine lv_iload hx hb dL_law_1027 (lv_at hl 0 rfl) ?_
  refine lv_iconst (v := 1) hx hb dL_law_1029 (by decide) ?_
  refine lv_iadd hx hb dL_law_1030 ?_
  refine va_sld hx hb hX hbl hbA hw.2.2 (hi 1 (by decide) (by decide)) dL_law_1031 ?_
  refine lv_topi (fun v2 ev2 => ?_)
  clear ev2
  obtain ⟨fsz, hfz⟩ := m_recv hHm ham
  obtain ⟨y8, hy8, hs8⟩ := m_up rfl (ms_518 γ l)
  cases hy8
  refine l_V 1 gw_1772 gw_1773 gw_1774 gw_15 gw_1775 hd_X12_ring hC hw (hs8 am wm [.ref z, .int v2] ⟨hHm, hMx, ⟨v_ref rfl ham, v_int _, trivial⟩, fun f hf => (by cases hf), fun f hf => (by cases hf)⟩) ⟨by decide, by decide⟩ ⟨by show cs + 0 ≤ 601024; omega, by show ss + 0 ≤ 7293034; omega⟩ hl.1 rfl hfz rfl rfl (Nat.le_of_ble_eq_true rfl) dL_law_1032 (fun r w2 H locs hq hw => ?_)
  obtain ⟨v8, rfl⟩ := l_ri (c := mn_518) rfl hq
  have hkm := q_kp2 hHm hq.1 hq.2.2.1 (q := 0) (g := 0) (k := 1) rfl (by decide +kernel)
  have hkm2 : ∀ k, qsl2 w2 1 k = qsl2 wm 1 k := fun k => q_kp2 hHm hq.1 hq.2.2.1 (q := 1) (g := 1) (k := k) rfl (qm_no (by decide +kernel) k)
  replace hTm := mTo_keep hHm hq.1 hq.2.2.1 (by decide +kernel) hTm
  replace hHm := hq.1
  replace hMx := hq.2.1
  clear hq hs8 hfz
  refine W.eq (g2 := F0 m 1035 ls [.int v8]) rfl ?_
  have hw := hw.perm b_sw
  refine lv_pop hx hb dL_law_1035 rfl ?_
  refine lv_goto (tgt := 1258) hx hb dL_law_1036 (by decide) ?_
  exact W.widen (by show cs + 0 ≤ cs + 1; omega) (by show ss + 0 ≤ ss + 6; omega) (hk _ _ _ ⟨w1, w2, fo, hw, hHx, hHm, hMx, (lR_keep hRl hkx hkx2 hkm hkm2), S, S', hTc, hTm, hTr⟩ hl)

set_option maxHeartbeats 4000000 in
set_option maxRecDepth 100000 in
theorem lc_27 {γ : kΓ} {l : Launch} {p : Program} {e : Env} {s : State} {m : MethodId} {below : List Frame} {meth : Method} {c : Code} {A : Nat → Prop} {Q : State → Prop} {b L : Nat} {xs : Nat → Int32} {x z ou : Nat} {ax am : List Nat} {i : Int32} {cs ss : Nat} (hC : kC γ p s m [Value.ref b].toArray c code 7 RL A) (hX : va_X b L xs s s.heap) (hbl : b < s.heap.size) (hbA : ¬ A b) (hl9 : l.stackTraces = false) (hax : ax[0]? = some x) (ham : am[0]? = some z) (hi : ∀ j : Int32, 0 ≤ j → j ≤ 6 → vp_in (i + j) L) (hcs : cs + 1 ≤ 601024) (hss : ss + 6 ≤ 7293034)
    (hk : ∀ (H : Heap) (locs : List Loc) (ls : Array Slot), lIv γ A ax am ou s H locs → lv_has ls 7 [(4, .int i), (0, .ref b), (1, .ref x), (2, .ref z), (3, .ref ou)] → W p l e room_1 s m [Value.ref b].toArray below meth c H locs (cs + 1) (ss + 6) Q (F0 m 1258 ls []))
    {H : Heap} {locs : List Loc} {ls : Array Slot} (hI : lIv γ A ax am ou s H locs) (hl : lv_has ls 7 [(4, .int i), (0, .ref b), (1, .ref x), (2, .ref z), (3, .ref ou)]) : W p l e room_1 s m [Value.ref b].toArray below meth c H locs cs ss Q (F0 m 1039 ls []) := by
  have hx := hC.1
  have hb := hC.2.1
  obtain ⟨wx, wm, fo, hw, hHx, hHm, hMx, hRl, S, S', hTc, hTm, hTr⟩ := hI
  refine lv_aload_n hx hb dL_law_1039 rfl (lv_at hl 2 rfl) ?_
  refine lv_aload_n hx hb dL_law_1040 rfl (lv_at hl 1 rfl) ?_
  refine lv_iload hx hb dL_law_1041 (lv_at hl 0 rfl) ?_
  refine lv_iconst (v := 1) hx hb dL_law_1043 (by decide) ?_
  refine lv_iadd hx hb dL_law_1044 ?_
  refine va_sld hx hb hX hbl hbA hw.2.2 (hi 1 (by decide) (by decide)) dL_law_1045 ?_
  refine lv_topi (fun v1 ev1 => ?_)
  clear ev1
  refine lv_aload_n hx hb dL_law_1046 rfl (lv_at hl 1 rfl) ?_
  refine lv_iload hx hb dL_law_1047 (lv_at hl 0 rfl) ?_
  refine lv_iconst (v := 2) hx hb dL_law_1049 (by decide) ?_
  refine lv_iadd hx hb dL_law_1050 ?_
  refine va_sld hx hb hX hbl hbA hw.2.2 (hi 2 (by decide) (by decide)) dL_law_1051 ?_
  refine lv_topi (fun v2 ev2 => ?_)
  clear ev2
  refine lv_aload_n hx hb dL_law_1052 rfl (lv_at hl 1 rfl) ?_
  refine lv_iload hx hb dL_law_1053 (lv_at hl 0 rfl) ?_
  refine lv_iconst (v := 3) hx hb dL_law_1055 (by decide) ?_
  refine lv_iadd hx hb dL_law_1056 ?_
  refine va_sld hx hb hX hbl hbA hw.2.2 (hi 3 (by decide) (by decide)) dL_law_1057 ?_
  refine lv_topi (fun v3 ev3 => ?_)
  clear ev3
  refine lv_aload_n hx hb dL_law_1058 rfl (lv_at hl 1 rfl) ?_
  refine lv_iload hx hb dL_law_1059 (lv_at hl 0 rfl) ?_
  refine lv_iconst (v := 4) hx hb dL_law_1061 (by decide) ?_
  refine lv_iadd hx hb dL_law_1062 ?_
  refine va_sld hx hb hX hbl hbA hw.2.2 (hi 4 (by decide) (by decide)) dL_law_1063 ?_
  refine lv_topi (fun v4 ev4 => ?_)
  clear ev4
  refine lv_aload_n hx hb dL_law_1064 rfl (lv_at hl 4 rfl) ?_
  have hw := hw.perm b_sw2
  refine l_SW 6 gw_1146 gw_1147 gw_0 gw_1148 hd_L_rests hC hw (h_rests γ l hl9 v1 v2 v3 v4 hHx hax) ⟨by decide, by decide⟩ ⟨by show cs + 1 ≤ 601024; omega, by show ss + 6 ≤ 7293034; omega⟩ hl.1 rfl rfl (Nat.le_of_ble_eq_true rfl) dL_law_1065 (fun r w1 H locs hq hw => ?_)
  obtain ⟨k9, wx1, fo1, rfl, rfl, hHx9, hKx⟩ := hq
  have hkx := q_kp2 hHx hHx9 hKx (q := 1) (g := 1) (k := 1) rfl (by decide +kernel)
  have hkx2 : ∀ k, qsl2 wx1 2 k = qsl2 wx 2 k := fun k => q_kp2 hHx hHx9 hKx (q := 2) (g := 2) (k := k) rfl (qm_no (by decide +kernel) k)
  replace hTc := cTo_keep hHx hHx9 hKx (by decide +kernel) hTc
  replace hHx := hHx9
  clear hHx9 hKx
  refine W.eq (g2 := F0 m 1068 ls [.int k9]) rfl ?_
  refine W.widen (k := cs + 1) (n := ss + 6) (Nat.le_refl _) (Nat.le_refl _) ?_
  refine lv_istore (lv' := [(5, .int k9), (4, .int i), (0, .ref b), (1, .ref x), (2, .ref z), (3, .ref ou)]) hx hb dL_law_1068 hl (by decide) rfl (fun ls hl => ?_)
  have hw := hw.perm b_sw3
  have hw := hw.perm b_sw
  refine lv_aload_n hx hb dL_law_1070 rfl (lv_at hl 4 rfl) ?_
  refine lv_aload_n hx hb dL_law_1071 rfl (lv_at hl 2 rfl) ?_
  refine lv_iload hx hb dL_law_1072 (lv_at hl 1 rfl) ?_
  refine lv_iconst (v := 1) hx hb dL_law_1074 (by decide) ?_
  refine lv_iadd hx hb dL_law_1075 ?_
  refine va_sld hx hb hX hbl hbA hw.2.2 (hi 1 (by decide) (by decide)) dL_law_1076 ?_
  refine lv_topi (fun v5 ev5 => ?_)
  clear ev5
  refine lv_aload_n hx hb dL_law_1077 rfl (lv_at hl 2 rfl) ?_
  refine lv_iload hx hb dL_law_1078 (lv_at hl 1 rfl) ?_
  refine lv_iconst (v := 2) hx hb dL_law_1080 (by decide) ?_
  refine lv_iadd hx hb dL_law_1081 ?_
  refine va_sld hx hb hX hbl hbA hw.2.2 (hi 2 (by decide) (by decide)) dL_law_1082 ?_
  refine lv_topi (fun v6 ev6 => ?_)
  clear ev6
  refine lv_aload_n hx hb dL_law_1083 rfl (lv_at hl 2 rfl) ?_
  refine lv_iload hx hb dL_law_1084 (lv_at hl 1 rfl) ?_
  refine lv_iconst (v := 3) hx hb dL_law_1086 (by decide) ?_
  refine lv_iadd hx hb dL_law_1087 ?_
  refine va_sld hx hb hX hbl hbA hw.2.2 (hi 3 (by decide) (by decide)) dL_law_1088 ?_
  refine lv_topi (fun v7 ev7 => ?_)
  clear ev7
  refine lv_aload_n hx hb dL_law_1089 rfl (lv_at hl 2 rfl) ?_
  refine lv_iload hx hb dL_law_1090 (lv_at hl 1 rfl) ?_
  refine lv_iconst (v := 4) hx hb dL_law_1092 (by decide) ?_
  refine lv_iadd hx hb dL_law_1093 ?_
  refine va_sld hx hb hX hbl hbA hw.2.2 (hi 4 (by decide) (by decide)) dL_law_1094 ?_
  refine lv_topi (fun v8 ev8 => ?_)
  clear ev8
  obtain ⟨fsz, hfz⟩ := m_recv hHm ham
  obtain ⟨y8, hy8, hs8⟩ := m_up rfl (ms_517 γ l)
  cases hy8
  refine l_V 4 gw_1776 gw_1777 gw_1778 gw_15 gw_1779 hd_X12_rests hC hw (hs8 am wm [.ref z, .int v5, .int v6, .int v7, .int v8] ⟨hHm, hMx, ⟨v_ref rfl ham, v_int _, v_int _, v_int _, v_int _, trivial⟩, fun f hf => (by cases hf), fun f hf => (by cases hf)⟩) ⟨by decide, by decide⟩ ⟨by show cs + 1 + 0 ≤ 601024; omega, by show ss + 6 + 0 ≤ 7293034; omega⟩ hl.1 rfl hfz rfl rfl (Nat.le_of_ble_eq_true rfl) dL_law_1095 (fun r w2 H locs hq hw => ?_)
  obtain ⟨v8, rfl⟩ := l_ri (c := mn_517) rfl hq
  have hkm := q_kp2 hHm hq.1 hq.2.2.1 (q := 0) (g := 0) (k := 1) rfl (by decide +kernel)
  have hkm2 : ∀ k, qsl2 w2 1 k = qsl2 wm 1 k := fun k => q_kp2 hHm hq.1 hq.2.2.1 (q := 1) (g := 1) (k := k) rfl (qm_no (by decide +kernel) k)
  replace hTm := mTo_keep hHm hq.1 hq.2.2.1 (by decide +kernel) hTm
  replace hHm := hq.1
  replace hMx := hq.2.1
  clear hq hs8 hfz
  refine W.eq (g2 := F0 m 1098 ls [.int v8]) rfl ?_
  have hw := hw.perm b_sw
  refine lv_istore (lv' := [(6, .int v8), (5, .int k9), (4, .int i), (0, .ref b), (1, .ref x), (2, .ref z), (3, .ref ou)]) hx hb dL_law_1098 hl (by decide) rfl (fun ls hl => ?_)
  refine lv_goto (tgt := 1258) hx hb dL_law_1100 (by decide) ?_
  exact W.widen (by show cs + 1 + 0 ≤ cs + 1; omega) (by show ss + 6 + 0 ≤ ss + 6; omega) (hk _ _ _ ⟨wx1, w2, fo1, hw, hHx, hHm, hMx, (lR_keep hRl hkx hkx2 hkm hkm2), S, S', hTc, hTm, hTr⟩ (lv_sub hl [2, 3, 4, 5, 6] rfl))

set_option maxHeartbeats 4000000 in
set_option maxRecDepth 100000 in
theorem lc_28 {γ : kΓ} {l : Launch} {p : Program} {e : Env} {s : State} {m : MethodId} {below : List Frame} {meth : Method} {c : Code} {A : Nat → Prop} {Q : State → Prop} {b L : Nat} {xs : Nat → Int32} {x z ou : Nat} {ax am : List Nat} {i : Int32} {cs ss : Nat} (hC : kC γ p s m [Value.ref b].toArray c code 7 RL A) (hX : va_X b L xs s s.heap) (hbl : b < s.heap.size) (hbA : ¬ A b) (hl9 : l.stackTraces = false) (hax : ax[0]? = some x) (ham : am[0]? = some z) (hi : ∀ j : Int32, 0 ≤ j → j ≤ 6 → vp_in (i + j) L) (hcs : cs + 1 ≤ 601024) (hss : ss + 6 ≤ 7293034)
    (hk : ∀ (H : Heap) (locs : List Loc) (ls : Array Slot), lIv γ A ax am ou s H locs → lv_has ls 7 [(4, .int i), (0, .ref b), (1, .ref x), (2, .ref z), (3, .ref ou)] → W p l e room_1 s m [Value.ref b].toArray below meth c H locs (cs + 1) (ss + 6) Q (F0 m 1258 ls []))
    {H : Heap} {locs : List Loc} {ls : Array Slot} (hI : lIv γ A ax am ou s H locs) (hl : lv_has ls 7 [(4, .int i), (0, .ref b), (1, .ref x), (2, .ref z), (3, .ref ou)]) : W p l e room_1 s m [Value.ref b].toArray below meth c H locs cs ss Q (F0 m 1103 ls []) := by
  have hx := hC.1
  have hb := hC.2.1
  obtain ⟨wx, wm, fo, hw, hHx, hHm, hMx, hRl, S, S', hTc, hTm, hTr⟩ := hI
  refine lv_aload_n hx hb dL_law_1103 rfl (lv_at hl 2 rfl) ?_
  refine lv_aload_n hx hb dL_law_1104 rfl (lv_at hl 1 rfl) ?_
  refine lv_iload hx hb dL_law_1105 (lv_at hl 0 rfl) ?_
  refine lv_iconst (v := 1) hx hb dL_law_1107 (by decide) ?_
  refine lv_iadd hx hb dL_law_1108 ?_
  refine va_sld hx hb hX hbl hbA hw.2.2 (hi 1 (by decide) (by decide)) dL_law_1109 ?_
  refine lv_topi (fun v1 ev1 => ?_)
  clear ev1
  obtain ⟨fsx, hfx⟩ := c_recv hHx hax
  obtain ⟨y9, hy9, hs9⟩ := cs_163 γ l
  cases hy9
  refine l_V 1 gw_857 gw_858 gw_859 gw_1 gw_860 hd_X11_other hC hw (hs9 ax wx [.ref x, .int v1] ⟨hHx, trivial, ⟨v_ref rfl hax, v_int _, trivial⟩, fun f hf => (by cases hf), fun f hf => (by cases hf)⟩) ⟨by decide, by decide⟩ ⟨by show cs + 0 ≤ 601024; omega, by show ss + 0 ≤ 7293034; omega⟩ hl.1 rfl hfx rfl rfl (Nat.le_of_ble_eq_true rfl) dL_law_1110 (fun r w1 H locs hq hw => ?_)
  obtain ⟨v9, rfl⟩ := l_ri (c := cn_163) rfl hq
  have hkx := q_kp2 hHx hq.1 hq.2.2.1 (q := 1) (g := 1) (k := 1) rfl (by decide +kernel)
  have hkx2 : ∀ k, qsl2 w1 2 k = qsl2 wx 2 k := fun k => q_kp2 hHx hq.1 hq.2.2.1 (q := 2) (g := 2) (k := k) rfl (qm_no (by decide +kernel) k)
  replace hTc := cTo_keep hHx hq.1 hq.2.2.1 (by decide +kernel) hTc
  replace hHx := hq.1
  clear hq hs9 hfx
  refine W.eq (g2 := F0 m 1113 ls [.int v9]) rfl ?_
  refine W.widen (k := cs) (n := ss) (Nat.le_refl _) (Nat.le_refl _) ?_
  refine lv_pop hx hb dL_law_1113 rfl ?_
  clear v9
  have hw := hw.perm b_sw
  refine lv_aload_n hx hb dL_law_1114 rfl (lv_at hl 3 rfl) ?_
  refine lv_aload_n hx hb dL_law_1115 rfl (lv_at hl 1 rfl) ?_
  refine lv_iload hx hb dL_law_1116 (lv_at hl 0 rfl) ?_
  refine lv_iconst (v := 1) hx hb dL_law_1118 (by decide) ?_
  refine lv_iadd hx hb dL_law_1119 ?_
  refine va_sld hx hb hX hbl hbA hw.2.2 (hi 1 (by decide) (by decide)) dL_law_1120 ?_
  refine lv_topi (fun v2 ev2 => ?_)
  clear ev2
  obtain ⟨fsz, hfz⟩ := m_recv hHm ham
  obtain ⟨y8, hy8, hs8⟩ := mg_other γ l
  cases hy8
  refine l_V 1 gw_1668 gw_1669 gw_1670 gw_15 gw_1671 hd_X12_other hC hw (hs8 am wm [.ref z, .int v2] ⟨hHm, hMx, ⟨v_ref rfl ham, v_int _, trivial⟩, fun f hf => (by cases hf), fun f hf => (by cases hf)⟩) ⟨by decide, by decide⟩ ⟨by show cs + 0 ≤ 601024; omega, by show ss + 0 ≤ 7293034; omega⟩ hl.1 rfl hfz rfl rfl (Nat.le_of_ble_eq_true rfl) dL_law_1121 (fun r w2 H locs hq hw => ?_)
  obtain ⟨v8, rfl⟩ := l_ri (c := (jG 88)) rfl hq
  have hkm := q_kp2 hHm hq.1 hq.2.2.1 (q := 0) (g := 0) (k := 1) rfl (by decide +kernel)
  have hkm2 : ∀ k, qsl2 w2 1 k = qsl2 wm 1 k := fun k => q_kp2 hHm hq.1 hq.2.2.1 (q := 1) (g := 1) (k := k) rfl (qm_no (by decide +kernel) k)
  replace hTm := mTo_keep hHm hq.1 hq.2.2.1 (by decide +kernel) hTm
  replace hHm := hq.1
  replace hMx := hq.2.1
  clear hq hs8 hfz
  refine W.eq (g2 := F0 m 1124 ls [.int v8]) rfl ?_
  have hw := hw.perm b_sw
  refine lv_pop hx hb dL_law_1124 rfl ?_
  refine lv_goto (tgt := 1258) hx hb dL_law_1125 (by decide) ?_
  exact W.widen (by show cs + 0 ≤ cs + 1; omega) (by show ss + 0 ≤ ss + 6; omega) (hk _ _ _ ⟨w1, w2, fo, hw, hHx, hHm, hMx, (lR_keep hRl hkx hkx2 hkm hkm2), S, S', hTc, hTm, hTr⟩ hl)

set_option maxHeartbeats 4000000 in
set_option maxRecDepth 100000 in
theorem lc_29 {γ : kΓ} {l : Launch} {p : Program} {e : Env} {s : State} {m : MethodId} {below : List Frame} {meth : Method} {c : Code} {A : Nat → Prop} {Q : State → Prop} {b L : Nat} {xs : Nat → Int32} {x z ou : Nat} {ax am : List Nat} {i : Int32} {cs ss : Nat} (hC : kC γ p s m [Value.ref b].toArray c code 7 RL A) (hX : va_X b L xs s s.heap) (hbl : b < s.heap.size) (hbA : ¬ A b) (hl9 : l.stackTraces = false) (hax : ax[0]? = some x) (ham : am[0]? = some z) (hi : ∀ j : Int32, 0 ≤ j → j ≤ 6 → vp_in (i + j) L) (hcs : cs + 1 ≤ 601024) (hss : ss + 6 ≤ 7293034)
    (hk : ∀ (H : Heap) (locs : List Loc) (ls : Array Slot), lIv γ A ax am ou s H locs → lv_has ls 7 [(4, .int i), (0, .ref b), (1, .ref x), (2, .ref z), (3, .ref ou)] → W p l e room_1 s m [Value.ref b].toArray below meth c H locs (cs + 1) (ss + 6) Q (F0 m 1258 ls []))
    {H : Heap} {locs : List Loc} {ls : Array Slot} (hI : lIv γ A ax am ou s H locs) (hl : lv_has ls 7 [(4, .int i), (0, .ref b), (1, .ref x), (2, .ref z), (3, .ref ou)]) : W p l e room_1 s m [Value.ref b].toArray below meth c H locs cs ss Q (F0 m 1128 ls []) := by
  have hx := hC.1
  have hb := hC.2.1
  obtain ⟨wx, wm, fo, hw, hHx, hHm, hMx, hRl, S, S', hTc, hTm, hTr⟩ := hI
  refine lv_aload_n hx hb dL_law_1128 rfl (lv_at hl 2 rfl) ?_
  refine lv_aload_n hx hb dL_law_1129 rfl (lv_at hl 1 rfl) ?_
  refine lv_iload hx hb dL_law_1130 (lv_at hl 0 rfl) ?_
  refine lv_iconst (v := 1) hx hb dL_law_1132 (by decide) ?_
  refine lv_iadd hx hb dL_law_1133 ?_
  refine va_sld hx hb hX hbl hbA hw.2.2 (hi 1 (by decide) (by decide)) dL_law_1134 ?_
  refine lv_topi (fun v1 ev1 => ?_)
  clear ev1
  refine lv_aload_n hx hb dL_law_1135 rfl (lv_at hl 1 rfl) ?_
  refine lv_iload hx hb dL_law_1136 (lv_at hl 0 rfl) ?_
  refine lv_iconst (v := 2) hx hb dL_law_1138 (by decide) ?_
  refine lv_iadd hx hb dL_law_1139 ?_
  refine va_sld hx hb hX hbl hbA hw.2.2 (hi 2 (by decide) (by decide)) dL_law_1140 ?_
  refine lv_topi (fun v2 ev2 => ?_)
  clear ev2
  refine lv_aload_n hx hb dL_law_1141 rfl (lv_at hl 1 rfl) ?_
  refine lv_iload hx hb dL_law_1142 (lv_at hl 0 rfl) ?_
  refine lv_iconst (v := 3) hx hb dL_law_1144 (by decide) ?_
  refine lv_iadd hx hb dL_law_1145 ?_
  refine va_sld hx hb hX hbl hbA hw.2.2 (hi 3 (by decide) (by decide)) dL_law_1146 ?_
  refine lv_topi (fun v3 ev3 => ?_)
  clear ev3
  refine lv_aload_n hx hb dL_law_1147 rfl (lv_at hl 4 rfl) ?_
  have hw := hw.perm b_sw2
  refine l_SW 5 gw_1162 gw_1163 gw_0 gw_1164 hd_L_lives hC hw (h_lives γ l hl9 v1 v2 v3 hHx hax) ⟨by decide, by decide⟩ ⟨by show cs + 1 ≤ 601024; omega, by show ss + 6 ≤ 7293034; omega⟩ hl.1 rfl rfl (Nat.le_of_ble_eq_true rfl) dL_law_1148 (fun r w1 H locs hq hw => ?_)
  obtain ⟨k9, wx1, fo1, rfl, rfl, hHx9, hKx⟩ := hq
  have hkx := q_kp2 hHx hHx9 hKx (q := 1) (g := 1) (k := 1) rfl (by decide +kernel)
  have hkx2 : ∀ k, qsl2 wx1 2 k = qsl2 wx 2 k := fun k => q_kp2 hHx hHx9 hKx (q := 2) (g := 2) (k := k) rfl (qm_no (by decide +kernel) k)
  replace hTc := cTo_keep hHx hHx9 hKx (by decide +kernel) hTc
  replace hHx := hHx9
  clear hHx9 hKx
  refine W.eq (g2 := F0 m 1151 ls [.int k9]) rfl ?_
  refine W.widen (k := cs + 1) (n := ss + 6) (Nat.le_refl _) (Nat.le_refl _) ?_
  refine lv_istore (lv' := [(5, .int k9), (4, .int i), (0, .ref b), (1, .ref x), (2, .ref z), (3, .ref ou)]) hx hb dL_law_1151 hl (by decide) rfl (fun ls hl => ?_)
  have hw := hw.perm b_sw3
  have hw := hw.perm b_sw
  refine lv_aload_n hx hb dL_law_1153 rfl (lv_at hl 4 rfl) ?_
  refine lv_aload_n hx hb dL_law_1154 rfl (lv_at hl 2 rfl) ?_
  refine lv_iload hx hb dL_law_1155 (lv_at hl 1 rfl) ?_
  refine lv_iconst (v := 1) hx hb dL_law_1157 (by decide) ?_
  refine lv_iadd hx hb dL_law_1158 ?_
  refine va_sld hx hb hX hbl hbA hw.2.2 (hi 1 (by decide) (by decide)) dL_law_1159 ?_
  refine lv_topi (fun v4 ev4 => ?_)
  clear ev4
  refine lv_aload_n hx hb dL_law_1160 rfl (lv_at hl 2 rfl) ?_
  refine lv_iload hx hb dL_law_1161 (lv_at hl 1 rfl) ?_
  refine lv_iconst (v := 2) hx hb dL_law_1163 (by decide) ?_
  refine lv_iadd hx hb dL_law_1164 ?_
  refine va_sld hx hb hX hbl hbA hw.2.2 (hi 2 (by decide) (by decide)) dL_law_1165 ?_
  refine lv_topi (fun v5 ev5 => ?_)
  clear ev5
  refine lv_aload_n hx hb dL_law_1166 rfl (lv_at hl 2 rfl) ?_
  refine lv_iload hx hb dL_law_1167 (lv_at hl 1 rfl) ?_
  refine lv_iconst (v := 3) hx hb dL_law_1169 (by decide) ?_
  refine lv_iadd hx hb dL_law_1170 ?_
  refine va_sld hx hb hX hbl hbA hw.2.2 (hi 3 (by decide) (by decide)) dL_law_1171 ?_
  refine lv_topi (fun v6 ev6 => ?_)
  clear ev6
  obtain ⟨fsz, hfz⟩ := m_recv hHm ham
  obtain ⟨y8, hy8, hs8⟩ := mx_449 γ l
  cases hy8
  refine l_V 3 gw_1783 gw_1784 gw_1785 gw_15 gw_1786 hd_X12_lives hC hw (hs8 am wm [.ref z, .int v4, .int v5, .int v6] ⟨hHm, hMx, ⟨v_ref rfl ham, v_int _, v_int _, v_int _, trivial⟩, fun f hf => (by cases hf), fun f hf => (by cases hf)⟩) ⟨by decide, by decide⟩ ⟨by show cs + 1 + 0 ≤ 601024; omega, by show ss + 6 + 0 ≤ 7293034; omega⟩ hl.1 rfl hfz rfl rfl (Nat.le_of_ble_eq_true rfl) dL_law_1172 (fun r w2 H locs hq hw => ?_)
  obtain ⟨v8, rfl⟩ := l_ri (c := mn_449) rfl hq
  have hkm := q_kp2 hHm hq.1 hq.2.2.1 (q := 0) (g := 0) (k := 1) rfl (by decide +kernel)
  have hkm2 : ∀ k, qsl2 w2 1 k = qsl2 wm 1 k := fun k => q_kp2 hHm hq.1 hq.2.2.1 (q := 1) (g := 1) (k := k) rfl (qm_no (by decide +kernel) k)
  replace hTm := mTo_keep hHm hq.1 hq.2.2.1 (by decide +kernel) hTm
  replace hHm := hq.1
  replace hMx := hq.2.1
  clear hq hs8 hfz
  refine W.eq (g2 := F0 m 1175 ls [.int v8]) rfl ?_
  have hw := hw.perm b_sw
  refine lv_istore (lv' := [(6, .int v8), (5, .int k9), (4, .int i), (0, .ref b), (1, .ref x), (2, .ref z), (3, .ref ou)]) hx hb dL_law_1175 hl (by decide) rfl (fun ls hl => ?_)
  refine lv_goto (tgt := 1258) hx hb dL_law_1177 (by decide) ?_
  exact W.widen (by show cs + 1 + 0 ≤ cs + 1; omega) (by show ss + 6 + 0 ≤ ss + 6; omega) (hk _ _ _ ⟨wx1, w2, fo1, hw, hHx, hHm, hMx, (lR_keep hRl hkx hkx2 hkm hkm2), S, S', hTc, hTm, hTr⟩ (lv_sub hl [2, 3, 4, 5, 6] rfl))

set_option maxHeartbeats 4000000 in
set_option maxRecDepth 100000 in
theorem lc_30 {γ : kΓ} {l : Launch} {p : Program} {e : Env} {s : State} {m : MethodId} {below : List Frame} {meth : Method} {c : Code} {A : Nat → Prop} {Q : State → Prop} {b L : Nat} {xs : Nat → Int32} {x z ou : Nat} {ax am : List Nat} {i : Int32} {cs ss : Nat} (hC : kC γ p s m [Value.ref b].toArray c code 7 RL A) (hX : va_X b L xs s s.heap) (hbl : b < s.heap.size) (hbA : ¬ A b) (hl9 : l.stackTraces = false) (hax : ax[0]? = some x) (ham : am[0]? = some z) (hi : ∀ j : Int32, 0 ≤ j → j ≤ 6 → vp_in (i + j) L) (hcs : cs + 1 ≤ 601024) (hss : ss + 6 ≤ 7293034)
    (hk : ∀ (H : Heap) (locs : List Loc) (ls : Array Slot), lIv γ A ax am ou s H locs → lv_has ls 7 [(4, .int i), (0, .ref b), (1, .ref x), (2, .ref z), (3, .ref ou)] → W p l e room_1 s m [Value.ref b].toArray below meth c H locs (cs + 1) (ss + 6) Q (F0 m 1258 ls []))
    {H : Heap} {locs : List Loc} {ls : Array Slot} (hI : lIv γ A ax am ou s H locs) (hl : lv_has ls 7 [(4, .int i), (0, .ref b), (1, .ref x), (2, .ref z), (3, .ref ou)]) : W p l e room_1 s m [Value.ref b].toArray below meth c H locs cs ss Q (F0 m 1180 ls []) := by
  have hx := hC.1
  have hb := hC.2.1
  obtain ⟨wx, wm, fo, hw, hHx, hHm, hMx, hRl, S, S', hTc, hTm, hTr⟩ := hI
  refine lv_aload_n hx hb dL_law_1180 rfl (lv_at hl 2 rfl) ?_
  refine lv_aload_n hx hb dL_law_1181 rfl (lv_at hl 1 rfl) ?_
  refine lv_iload hx hb dL_law_1182 (lv_at hl 0 rfl) ?_
  refine lv_iconst (v := 1) hx hb dL_law_1184 (by decide) ?_
  refine lv_iadd hx hb dL_law_1185 ?_
  refine va_sld hx hb hX hbl hbA hw.2.2 (hi 1 (by decide) (by decide)) dL_law_1186 ?_
  refine lv_topi (fun v1 ev1 => ?_)
  clear ev1
  refine lv_aload_n hx hb dL_law_1187 rfl (lv_at hl 1 rfl) ?_
  refine lv_iload hx hb dL_law_1188 (lv_at hl 0 rfl) ?_
  refine lv_iconst (v := 2) hx hb dL_law_1190 (by decide) ?_
  refine lv_iadd hx hb dL_law_1191 ?_
  refine va_sld hx hb hX hbl hbA hw.2.2 (hi 2 (by decide) (by decide)) dL_law_1192 ?_
  refine lv_topi (fun v2 ev2 => ?_)
  clear ev2
  have hgo : ∀ w0 : Int32, (w0 = 0 ∨ w0 = 1) → W p l e room_1 s m [Value.ref b].toArray below meth c H locs cs ss Q (F0 m 1201 ls [.int w0, .int v1, .ref x]) := ?_
  · refine lv_if_eq (tgt := 1200) hx hb dL_law_1193 (by decide) (fun _ => ?_) (fun _ => ?_)
    · refine lv_iconst (v := 0) hx hb dL_law_1200 (by decide) ?_
      exact hgo 0 (.inl rfl)
    · refine lv_iconst (v := 1) hx hb dL_law_1196 (by decide) ?_
      refine lv_goto (tgt := 1201) hx hb dL_law_1197 (by decide) ?_
      exact hgo 1 (.inr rfl)
  intro w0 h0
  obtain ⟨fsx, hfx⟩ := c_recv hHx hax
  obtain ⟨y9, hy9, hs9⟩ := cs_138 γ l
  cases hy9
  refine l_V 2 gw_847 gw_848 gw_849 gw_1 gw_850 hd_X11_mark hC hw (hs9 ax wx [.ref x, .int v1, .int w0] ⟨hHx, trivial, ⟨v_ref rfl hax, v_int _, v_bool h0, trivial⟩, fun f hf => (by cases hf), fun f hf => (by cases hf)⟩) ⟨by decide, by decide⟩ ⟨by show cs + 0 ≤ 601024; omega, by show ss + 0 ≤ 7293034; omega⟩ hl.1 rfl hfx rfl rfl (Nat.le_of_ble_eq_true rfl) dL_law_1201 (fun r w1 H locs hq hw => ?_)
  obtain ⟨v9, rfl⟩ := l_ri (c := cn_138) rfl hq
  have hkx := q_kp2 hHx hq.1 hq.2.2.1 (q := 1) (g := 1) (k := 1) rfl (by decide +kernel)
  have hkx2 : ∀ k, qsl2 w1 2 k = qsl2 wx 2 k := fun k => q_kp2 hHx hq.1 hq.2.2.1 (q := 2) (g := 2) (k := k) rfl (qm_no (by decide +kernel) k)
  replace hTc := cTo_keep hHx hq.1 hq.2.2.1 (by decide +kernel) hTc
  replace hHx := hq.1
  clear hq hs9 hfx
  refine W.eq (g2 := F0 m 1204 ls [.int v9]) rfl ?_
  refine W.widen (k := cs) (n := ss) (Nat.le_refl _) (Nat.le_refl _) ?_
  refine lv_pop hx hb dL_law_1204 rfl ?_
  clear v9
  have hw := hw.perm b_sw
  refine lv_aload_n hx hb dL_law_1205 rfl (lv_at hl 3 rfl) ?_
  refine lv_aload_n hx hb dL_law_1206 rfl (lv_at hl 1 rfl) ?_
  refine lv_iload hx hb dL_law_1207 (lv_at hl 0 rfl) ?_
  refine lv_iconst (v := 1) hx hb dL_law_1209 (by decide) ?_
  refine lv_iadd hx hb dL_law_1210 ?_
  refine va_sld hx hb hX hbl hbA hw.2.2 (hi 1 (by decide) (by decide)) dL_law_1211 ?_
  refine lv_topi (fun v3 ev3 => ?_)
  clear ev3
  refine lv_aload_n hx hb dL_law_1212 rfl (lv_at hl 1 rfl) ?_
  refine lv_iload hx hb dL_law_1213 (lv_at hl 0 rfl) ?_
  refine lv_iconst (v := 2) hx hb dL_law_1215 (by decide) ?_
  refine lv_iadd hx hb dL_law_1216 ?_
  refine va_sld hx hb hX hbl hbA hw.2.2 (hi 2 (by decide) (by decide)) dL_law_1217 ?_
  refine lv_topi (fun v4 ev4 => ?_)
  clear ev4
  clear h0 w0
  have hgo : ∀ w0 : Int32, (w0 = 0 ∨ w0 = 1) → W p l e room_1 s m [Value.ref b].toArray below meth c H locs cs ss Q (F0 m 1226 ls [.int w0, .int v3, .ref z]) := ?_
  · refine lv_if_eq (tgt := 1225) hx hb dL_law_1218 (by decide) (fun _ => ?_) (fun _ => ?_)
    · refine lv_iconst (v := 0) hx hb dL_law_1225 (by decide) ?_
      exact hgo 0 (.inl rfl)
    · refine lv_iconst (v := 1) hx hb dL_law_1221 (by decide) ?_
      refine lv_goto (tgt := 1226) hx hb dL_law_1222 (by decide) ?_
      exact hgo 1 (.inr rfl)
  intro w0 h0
  obtain ⟨fsz, hfz⟩ := m_recv hHm ham
  obtain ⟨y8, hy8, hs8⟩ := mx_451 γ l
  cases hy8
  refine l_V 2 gw_1799 gw_1800 gw_1801 gw_15 gw_1802 hd_X12_mark hC hw (hs8 am wm [.ref z, .int v3, .int w0] ⟨hHm, hMx, ⟨v_ref rfl ham, v_int _, v_bool h0, trivial⟩, fun f hf => (by cases hf), fun f hf => (by cases hf)⟩) ⟨by decide, by decide⟩ ⟨by show cs + 0 ≤ 601024; omega, by show ss + 0 ≤ 7293034; omega⟩ hl.1 rfl hfz rfl rfl (Nat.le_of_ble_eq_true rfl) dL_law_1226 (fun r w2 H locs hq hw => ?_)
  obtain ⟨v8, rfl⟩ := l_ri (c := mn_451) rfl hq
  have hkm := q_kp2 hHm hq.1 hq.2.2.1 (q := 0) (g := 0) (k := 1) rfl (by decide +kernel)
  have hkm2 : ∀ k, qsl2 w2 1 k = qsl2 wm 1 k := fun k => q_kp2 hHm hq.1 hq.2.2.1 (q := 1) (g := 1) (k := k) rfl (qm_no (by decide +kernel) k)
  replace hTm := mTo_keep hHm hq.1 hq.2.2.1 (by decide +kernel) hTm
  replace hHm := hq.1
  replace hMx := hq.2.1
  clear hq hs8 hfz
  refine W.eq (g2 := F0 m 1229 ls [.int v8]) rfl ?_
  have hw := hw.perm b_sw
  refine lv_pop hx hb dL_law_1229 rfl ?_
  refine lv_goto (tgt := 1258) hx hb dL_law_1230 (by decide) ?_
  exact W.widen (by show cs + 0 ≤ cs + 1; omega) (by show ss + 0 ≤ ss + 6; omega) (hk _ _ _ ⟨w1, w2, fo, hw, hHx, hHm, hMx, (lR_keep hRl hkx hkx2 hkm hkm2), S, S', hTc, hTm, hTr⟩ hl)

set_option maxHeartbeats 4000000 in
set_option maxRecDepth 100000 in
theorem lc_31 {γ : kΓ} {l : Launch} {p : Program} {e : Env} {s : State} {m : MethodId} {below : List Frame} {meth : Method} {c : Code} {A : Nat → Prop} {Q : State → Prop} {b L : Nat} {xs : Nat → Int32} {x z ou : Nat} {ax am : List Nat} {i : Int32} {cs ss : Nat} (hC : kC γ p s m [Value.ref b].toArray c code 7 RL A) (hX : va_X b L xs s s.heap) (hbl : b < s.heap.size) (hbA : ¬ A b) (hl9 : l.stackTraces = false) (hax : ax[0]? = some x) (ham : am[0]? = some z) (hi : ∀ j : Int32, 0 ≤ j → j ≤ 6 → vp_in (i + j) L) (hcs : cs + 1 ≤ 601024) (hss : ss + 6 ≤ 7293034)
    (hk : ∀ (H : Heap) (locs : List Loc) (ls : Array Slot), lIv γ A ax am ou s H locs → lv_has ls 7 [(4, .int i), (0, .ref b), (1, .ref x), (2, .ref z), (3, .ref ou)] → W p l e room_1 s m [Value.ref b].toArray below meth c H locs (cs + 1) (ss + 6) Q (F0 m 1258 ls []))
    {H : Heap} {locs : List Loc} {ls : Array Slot} (hI : lIv γ A ax am ou s H locs) (hl : lv_has ls 7 [(4, .int i), (0, .ref b), (1, .ref x), (2, .ref z), (3, .ref ou)]) : W p l e room_1 s m [Value.ref b].toArray below meth c H locs cs ss Q (F0 m 1233 ls []) := by
  have hx := hC.1
  have hb := hC.2.1
  obtain ⟨wx, wm, fo, hw, hHx, hHm, hMx, hRl, S, S', hTc, hTm, hTr⟩ := hI
  refine lv_aload_n hx hb dL_law_1233 rfl (lv_at hl 2 rfl) ?_
  refine lv_aload_n hx hb dL_law_1234 rfl (lv_at hl 1 rfl) ?_
  refine lv_iload hx hb dL_law_1235 (lv_at hl 0 rfl) ?_
  refine lv_iconst (v := 1) hx hb dL_law_1237 (by decide) ?_
  refine lv_iadd hx hb dL_law_1238 ?_
  refine va_sld hx hb hX hbl hbA hw.2.2 (hi 1 (by decide) (by decide)) dL_law_1239 ?_
  refine lv_topi (fun v1 ev1 => ?_)
  clear ev1
  obtain ⟨fsx, hfx⟩ := c_recv hHx hax
  obtain ⟨y9, hy9, hs9⟩ := cs_115 γ l
  cases hy9
  refine l_V 1 gw_739 gw_740 gw_741 gw_1 gw_742 hd_X11_count hC hw (hs9 ax wx [.ref x, .int v1] ⟨hHx, trivial, ⟨v_ref rfl hax, v_int _, trivial⟩, fun f hf => (by cases hf), fun f hf => (by cases hf)⟩) ⟨by decide, by decide⟩ ⟨by show cs + 0 ≤ 601024; omega, by show ss + 0 ≤ 7293034; omega⟩ hl.1 rfl hfx rfl rfl (Nat.le_of_ble_eq_true rfl) dL_law_1240 (fun r w1 H locs hq hw => ?_)
  obtain ⟨v9, rfl⟩ := l_ri (c := cn_115) rfl hq
  have hkx := q_kp2 hHx hq.1 hq.2.2.1 (q := 1) (g := 1) (k := 1) rfl (by decide +kernel)
  have hkx2 : ∀ k, qsl2 w1 2 k = qsl2 wx 2 k := fun k => q_kp2 hHx hq.1 hq.2.2.1 (q := 2) (g := 2) (k := k) rfl (qm_no (by decide +kernel) k)
  replace hTc := cTo_keep hHx hq.1 hq.2.2.1 (by decide +kernel) hTc
  replace hHx := hq.1
  clear hq hs9 hfx
  refine W.eq (g2 := F0 m 1243 ls [.int v9]) rfl ?_
  refine W.widen (k := cs) (n := ss) (Nat.le_refl _) (Nat.le_refl _) ?_
  refine lv_pop hx hb dL_law_1243 rfl ?_
  clear v9
  have hw := hw.perm b_sw
  refine lv_aload_n hx hb dL_law_1244 rfl (lv_at hl 3 rfl) ?_
  refine lv_aload_n hx hb dL_law_1245 rfl (lv_at hl 1 rfl) ?_
  refine lv_iload hx hb dL_law_1246 (lv_at hl 0 rfl) ?_
  refine lv_iconst (v := 1) hx hb dL_law_1248 (by decide) ?_
  refine lv_iadd hx hb dL_law_1249 ?_
  refine va_sld hx hb hX hbl hbA hw.2.2 (hi 1 (by decide) (by decide)) dL_law_1250 ?_
  refine lv_topi (fun v2 ev2 => ?_)
  clear ev2
  obtain ⟨fsz, hfz⟩ := m_recv hHm ham
  obtain ⟨y8, hy8, hs8⟩ := m_up rfl (ms_273 γ l)
  cases hy8
  refine l_V 1 gw_1807 gw_1808 gw_1809 gw_15 gw_1810 hd_X12_count hC hw (hs8 am wm [.ref z, .int v2] ⟨hHm, hMx, ⟨v_ref rfl ham, v_int _, trivial⟩, fun f hf => (by cases hf), fun f hf => (by cases hf)⟩) ⟨by decide, by decide⟩ ⟨by show cs + 0 ≤ 601024; omega, by show ss + 0 ≤ 7293034; omega⟩ hl.1 rfl hfz rfl rfl (Nat.le_of_ble_eq_true rfl) dL_law_1251 (fun r w2 H locs hq hw => ?_)
  obtain ⟨v8, rfl⟩ := l_ri (c := mn_273) rfl hq
  have hkm := q_kp2 hHm hq.1 hq.2.2.1 (q := 0) (g := 0) (k := 1) rfl (by decide +kernel)
  have hkm2 : ∀ k, qsl2 w2 1 k = qsl2 wm 1 k := fun k => q_kp2 hHm hq.1 hq.2.2.1 (q := 1) (g := 1) (k := k) rfl (qm_no (by decide +kernel) k)
  replace hTm := mTo_keep hHm hq.1 hq.2.2.1 (by decide +kernel) hTm
  replace hHm := hq.1
  replace hMx := hq.2.1
  clear hq hs8 hfz
  refine W.eq (g2 := F0 m 1254 ls [.int v8]) rfl ?_
  have hw := hw.perm b_sw
  refine lv_pop hx hb dL_law_1254 rfl ?_
  refine lv_goto (tgt := 1258) hx hb dL_law_1255 (by decide) ?_
  exact W.widen (by show cs + 0 ≤ cs + 1; omega) (by show ss + 0 ≤ ss + 6; omega) (hk _ _ _ ⟨w1, w2, fo, hw, hHx, hHm, hMx, (lR_keep hRl hkx hkx2 hkm hkm2), S, S', hTc, hTm, hTr⟩ hl)
